/-! forty hours -/
/-- columns and rows of the law's own barrels stay -/
def C01 (b b' : Nat → Nat → Int32) : Prop := ∀ j, b' j 0 = b j 0 ∧ b' j 1 = b j 1
theorem C01_r {b : Nat → Nat → Int32} : C01 b b := fun _ => ⟨rfl, rfl⟩
theorem C01_t {a b c : Nat → Nat → Int32} (h : C01 a b) (h' : C01 b c) : C01 a c := fun j => ⟨(h' j).1.trans (h j).1, (h' j).2.trans (h j).2⟩
theorem C01_w {b : Nat → Nat → Int32} {j : Nat} {i x : Int32} (hi : 2 ≤ i.toNatClampNeg) : C01 b (uF b j (wr (b j) i x)) := fun c => by
  by_cases z : c = j
  · rw [z, uF_a]
    unfold wr
    rw [upd_b (by omega), upd_b (by omega)]
    exact ⟨rfl, rfl⟩
  · rw [uF_b z]
    exact ⟨rfl, rfl⟩
theorem k_10 : ∀ (n j : Nat) (b r : Nat → Nat → Int32), jS_pass_L10 n j b = some r → C01 b r
  | 0, j, b, r, h => by
    rw [jS_pass_L10] at h
    rw [← Option.some.inj h]
    exact C01_r
  | n + 1, j, b, r, h => by
    rw [jS_pass_L10] at h
    by_cases q : rd (b j) 6 = 0
    · rw [if_pos q] at h
      exact C01_t (C01_w (by decide)) (k_10 n _ _ _ h)
    · rw [if_neg q] at h
      exact k_10 n _ _ _ h
theorem k_end2 {f : Int32} {is : Nat → Int32} {nB nP : Nat} : ∀ (n j : Nat) (b p : Nat → Nat → Int32) (r : (Nat → Nat → Int32) × (Nat → Nat → Int32)), jS_end_L2 f is nB nP n j b p = some r → C01 b r.1
  | 0, j, b, p, r, h => by
    rw [jS_end_L2] at h
    rw [← Option.some.inj h]
    exact C01_r
  | n + 1, j, b, p, r, h => by
    rw [jS_end_L2] at h
    by_cases q : rd is (nI j) = 0
    · rw [if_pos q] at h
      exact k_end2 n _ _ _ _ h
    · rw [if_neg q] at h
      obtain ⟨-, h⟩ := chk_s h
      rw [jn_n] at h
      by_cases v : f = 1
      · rw [if_pos v] at h
        obtain ⟨-, h⟩ := chk_s h
        obtain ⟨-, h⟩ := chkP_s h
        obtain ⟨q4, -, h⟩ := bnd_s h
        exact C01_t (C01_t (C01_w (by decide)) (C01_w (by decide))) (k_end2 n _ _ _ _ h)
      · rw [if_neg v] at h
        obtain ⟨-, h⟩ := chkP_s h
        obtain ⟨q4, -, h⟩ := bnd_s h
        exact C01_t (C01_w (by decide)) (k_end2 n _ _ _ _ h)
theorem k_end {nB nT nP nR isN : Nat} {sg : Nat → Nat} {b t p : Nat → Nat → Int32} {is : Nat → Int32} {a : Int32} {r : Nat × (Nat → Nat) × (Nat → Nat → Int32) × (Nat → Nat → Int32)} (h : jS_end nB nT nP nR sg b t p isN is a = some r) : C01 b r.2.2.1 := by
  unfold jS_end at h
  obtain ⟨-, h⟩ := chkP_s h
  obtain ⟨q5, h5, h⟩ := bnd_s h
  obtain ⟨-, h⟩ := chkP_s h
  obtain ⟨q11, -, h⟩ := bnd_s h
  rw [← Option.some.inj h]
  exact k_end2 _ _ _ _ _ h5
theorem k_54 {nB nR nP : Nat} {t : Nat → Nat → Int32} : ∀ (n j nT : Nat) (sg : Nat → Nat) (b p : Nat → Nat → Int32) (r : Nat × (Nat → Nat) × (Nat → Nat → Int32) × (Nat → Nat → Int32)), jS_pass_L54 nB nR t nP n j nT sg b p = some r → C01 b r.2.2.1
  | 0, j, nT, sg, b, p, r, h => by
    rw [jS_pass_L54] at h
    rw [← Option.some.inj h]
    exact C01_r
  | n + 1, j, nT, sg, b, p, r, h => by
    rw [jS_pass_L54] at h
    obtain ⟨q3, -, h⟩ := bnd_s h
    by_cases z : q3 = nI j
    · rw [if_pos z] at h
      obtain ⟨q5, -, h⟩ := bnd_s h
      obtain ⟨q7, -, h⟩ := bnd_s h
      obtain ⟨q9, -, h⟩ := bnd_s h
      by_cases y : q7 ≤ q9
      · rw [if_pos y] at h
        exact k_54 n _ _ _ _ _ _ h
      · rw [if_neg y] at h
        obtain ⟨q11, h11, h⟩ := bnd_s h
        exact C01_t (k_end h11) (k_54 n _ _ _ _ _ _ h)
    · rw [if_neg z] at h
      exact k_54 n _ _ _ _ _ _ h
theorem k_474 {sc : Nat → Option Nat} {nX : Nat} {xF : Nat → Nat → Int32} : ∀ (n j : Nat) (b r : Nat → Nat → Int32), jS_pass_L474 sc nX xF n j b = some r → C01 b r
  | 0, j, b, r, h => by
    rw [jS_pass_L474] at h
    rw [← Option.some.inj h]
    exact C01_r
  | n + 1, j, b, r, h => by
    rw [jS_pass_L474] at h
    by_cases z : sc j = none
    · rw [if_pos z] at h
      exact k_474 n _ _ _ h
    · rw [if_neg z] at h
      obtain ⟨o1, -, h⟩ := bnd_s h
      obtain ⟨-, h⟩ := chkP_s h
      obtain ⟨o2, -, h⟩ := bnd_s h
      obtain ⟨-, h⟩ := chkP_s h
      exact C01_t (C01_t (C01_w (by decide)) (C01_w (by decide))) (k_474 n _ _ _ h)
theorem k_535 {nB nR nP : Nat} {t : Nat → Nat → Int32} : ∀ (n j nT : Nat) (sg : Nat → Nat) (b p : Nat → Nat → Int32) (r : Nat × (Nat → Nat) × (Nat → Nat → Int32) × (Nat → Nat → Int32)), jS_pass_L535 nB nR t nP n j nT sg b p = some r → C01 b r.2.2.1
  | 0, j, nT, sg, b, p, r, h => by
    rw [jS_pass_L535] at h
    rw [← Option.some.inj h]
    exact C01_r
  | n + 1, j, nT, sg, b, p, r, h => by
    rw [jS_pass_L535] at h
    by_cases z : rd (b j) 6 = 0
    · rw [if_pos z] at h
      by_cases y : rd (b j) 7 = 29
      · rw [if_pos y] at h
        obtain ⟨q57, -, h⟩ := bnd_s h
        obtain ⟨q59, h59, h⟩ := bnd_s h
        exact C01_t (k_end h59) (k_535 n _ _ _ _ _ _ h)
      · rw [if_neg y] at h
        exact k_535 n _ _ _ _ _ _ h
    · rw [if_neg z] at h
      exact k_535 n _ _ _ _ _ _ h
theorem k_pass {ho br wx wy : Int32} {nW nB nT nP nR : Nat} {sg : Nat → Nat} {w b t p : Nat → Nat → Int32} {r : Int32 × Int32 × Int32 × Nat × (Nat → Nat) × (Nat → Nat → Int32) × (Nat → Nat → Int32) × (Nat → Nat → Int32)} (h : jS_pass ho br wx wy nW nB nT nP nR sg w b t p = some r) : C01 b r.2.2.2.2.2.1 := by
  unfold jS_pass at h
  obtain ⟨-, h⟩ := chkP_s h
  obtain ⟨q2, h2, h⟩ := bnd_s h
  obtain ⟨-, h⟩ := chkP_s h
  obtain ⟨q13, h13, h⟩ := bnd_s h
  obtain ⟨-, h⟩ := chkP_s h
  obtain ⟨q27, -, h⟩ := bnd_s h
  obtain ⟨-, h⟩ := chkP_s h
  obtain ⟨-, h⟩ := chkP_s h
  obtain ⟨q47, -, h⟩ := bnd_s h
  obtain ⟨-, h⟩ := chkP_s h
  obtain ⟨q54, h54, h⟩ := bnd_s h
  obtain ⟨-, h⟩ := chkP_s h
  obtain ⟨q61, h61, h⟩ := bnd_s h
  rw [← Option.some.inj h]
  exact C01_t (k_10 _ _ _ _ h2) (C01_t (k_54 _ _ _ _ _ _ _ h13) (C01_t (k_474 _ _ _ _ h54) (k_535 _ _ _ _ _ _ _ h61)))
section Hours
variable {n k w t nT nR : Nat} {S S1 : Nat → Nat → Int32} {ropes wx wy : Int32} {sg : Nat → Nat} {wF bF tF pF : Nat → Nat → Int32}
theorem IV_ek (e : EK S S1) (h : IV n k w t S ropes wx wy nT nR sg wF bF tF pF) : IV n k w t S1 ropes wx wy nT nR sg wF bF tF pF := by
  obtain ⟨m, r, κ, κs, hB, hX, hM, hw, ⟨e1, e2, e3, e4⟩, hCo⟩ := h
  refine ⟨m, r, κ, κs, RelB_ext hB e, ?_, ?_, ?_, ⟨e1, ?_, ?_, ?_⟩, ?_⟩
  · unfold XI
    rw [e 69 rfl, e 70 rfl, e 19 rfl, e 20 rfl, e 17 rfl, e 16 rfl, e 15 rfl, e 24 rfl, e 25 rfl]
    exact hX
  · refine ⟨?_, ?_, ?_, hM.2.2.2.1, hM.2.2.2.2.1, ?_⟩
    · show ∀ j, j < n → _ = S1 14 j ∧ _ = S1 15 j ∧ _ = S1 16 j ∧ _ = S1 17 j ∧ _ = S1 19 j ∧ _ = S1 20 j ∧ _ = S1 21 j
      rw [e 14 rfl, e 15 rfl, e 16 rfl, e 17 rfl, e 19 rfl, e 20 rfl, e 21 rfl]; exact hM.1
    · show ∀ c, c < k → _ = S1 24 c ∧ _ = S1 25 c
      rw [e 24 rfl, e 25 rfl]; exact hM.2.1
    · show QOK nT _ _ _ _ κs (S1 69) (S1 70)
      rw [e 69 rfl, e 70 rfl]; exact hM.2.2.1
    · show (∀ j, j < n → S1 19 j = 0 ∨ S1 19 j = 1 ∨ S1 19 j = 2) ∧ ∀ c, c < k → S1 25 c = 0 ∨ S1 25 c = 1 ∨ S1 25 c = 2
      rw [e 19 rfl, e 25 rfl]; exact hM.2.2.2.2.2
  · rw [e 62 rfl]; exact hw
  · rw [e 6 rfl]; exact e2
  · rw [e 7 rfl]; exact e3
  · rw [e 10 rfl]; exact e4
  · unfold CO
    rw [e 12 rfl, e 13 rfl]; exact hCo
theorem law_hours (hn0 : 0 < n) (hn12 : n ≤ 12) {L : Nat} {xs : Nat → Int32} : ∀ (f t : Nat) (S : Nat → Nat → Int32) (ho ropes br wx wy : Int32) (nT : Nat) (sg : Nat → Nat) (bF : Nat → Nat → Int32) (nR : Nat) (tF pF : Nat → Nat → Int32), t + f = 40 → IV n k w t S ropes wx wy nT nR sg wF bF tF pF →
    ∃ r, jL_law_L38 n k L xs w wF n k f t S ho ropes br wx wy nT sg bF nR tF pF = some r
  | 0, t, S, ho, ropes, br, wx, wy, nT, sg, bF, nR, tF, pF, _, _ => ⟨_, rfl⟩
  | f + 1, t, S, ho, ropes, br, wx, wy, nT, sg, bF, nR, tF, pF, ht, hI => by
    have h16 : ¬ (nI t - nI t / 16 * 16) < 0 := by
      rw [show (16 : Int32) = nI 16 from rfl, pk_rem (by omega) (by omega) (by omega)]
      exact n_neg (by omega)
    obtain ⟨ropes', wx', wy', nT', nR', sg', bF', tF', pF', S', g1, g2⟩ := act_ok hI hn0 ((shr5 (cellv L xs ((nI t) - (nI t) / 16 * 16)) (((nI t) / 16) * 3)) + (5 * (nI t)))
    obtain ⟨m, r, κ, κs, hB, hX, hM, hw, ⟨e1, e2, e3, e4⟩, hCo⟩ := g2
    subst e2
    subst e3
    have hk8 : k ≤ 8 := hB.2.2.2.1.2.1
    obtain ⟨Sp, X, A2, nT2, sg2, κ2, bF2, tF2, pF2, bN, m3, κ3, q1, q2, q3, q4, q5, q6, q7, q8, q9, q10, q11, q12, q13⟩ := y_hour (τ := (Nat → Nat → Int32) × Int32 × Int32 × Int32 × Int32 × Int32 × Nat × (Nat → Nat) × (Nat → Nat → Int32) × Nat × (Nat → Nat → Int32) × (Nat → Nat → Int32)) (ho := ho) (br := br) hB hn12 (by omega) hX hM hw e4 (fun X r_141 => jL_law_L38 n k L xs w wF n k f (t + 1) X r_141.2.1 ropes' r_141.2.2.1 (S' 6 0) (S' 7 0) r_141.2.2.2.1 r_141.2.2.2.2.1 r_141.2.2.2.2.2.1 nR' r_141.2.2.2.2.2.2.1 r_141.2.2.2.2.2.2.2)
    have hc := k_pass q1
    have hI2 : IV n k w (t + 1) Sp ropes' (S' 6 0) (S' 7 0) nT2 nR' sg2 wF bF2 tF2 pF2 := ⟨m3, r, κ3, κ2, q2, q3, q4, by rw [q5]; exact hw, ⟨e1, by rw [q6], by rw [q7], q10⟩, fun j hj => by
      rw [q8, q9]
      exact ⟨(hc j).1.trans (hCo j hj).1, (hc j).2.trans (hCo j hj).2⟩⟩
    obtain ⟨res, hres⟩ := law_hours hn0 hn12 (L := L) (xs := xs) f (t + 1) X (ho + 1) ropes' (br + bN) (S' 6 0) (S' 7 0) nT2 sg2 bF2 nR' tF2 pF2 (by omega) (IV_ek q11 hI2)
    refine ⟨res, ?_⟩
    rw [jL_law_L38, chkP_n h16, g1, bnd_n]
    dsimp only
    rw [if_neg one_ne]
    refine q13.trans ?_
    rw [q12]
    exact hres
end Hours
