/-! the law's own raft: a lashing is tied anew -/
theorem jn_to {α β : Type} {F : α → Option β} {B : (α → Option β) → Option β} {x : α} (h : ∀ kk : α → Option β, B kk = kk x) : jn F B = F x := h F
theorem upd_upd {f : Nat → Int32} {q : Nat} {x y : Int32} : upd (upd f q x) q y = upd f q y := by
  funext j
  unfold upd
  by_cases z : j = q
  · rw [if_pos z, if_pos z]
  · rw [if_neg z, if_neg z, if_neg z]
section SMt
variable {n k m nR : Nat} {A : Nat → Nat → Int32} {sg κ : Nat → Nat} {bF tF pF : Nat → Nat → Int32}
theorem s_insF {m1 : Nat} {s1 κ1 : Nat → Nat} {T1 U1 : Nat → Int32} {x : Int32} {one two : Nat} (Q : QOK m1 (fun i => tF (s1 i) 0) (fun i => tF (s1 i) 1) (fun i => tF (s1 i) 2) (fun i => tF (s1 i) 3) κ1 T1 U1) (hm : m1 ≤ 10) (hs : ∀ i, i < m1 → s1 i < nR) (h12 : one < two) (h2 : two < 24) (h0 : ¬ 0 < T1 (24 * one + two)) (hx : 0 < x) :
    ∃ sg' tF' κ', chkP (m1 ≤ 10) (bnd (jS_tie__L56 x (nI one) (nI two) m1 s1 m1 0 nR tF 0 (fun _ => 0) 0) (fun r_28 => (if r_28.2.2.2.2 = 0 then chkP (∀ i, i < m1 → s1 i < r_28.1) (chkP (∀ i, i < r_28.2.2.1 → r_28.2.2.2.1 i < r_28.1) (chkP (∀ i, i < r_28.2.2.1 → r_28.2.2.2.1 i < r_28.1 + 1) (chkP (r_28.2.2.1 < 12) (some (r_28.2.2.1 + 1, r_28.1 + 1, uN r_28.2.2.2.1 r_28.2.2.1 r_28.1, uF r_28.2.1 r_28.1 (wr (wr (wr (wr (fun _ => 0) 0 (nI one)) 1 (nI two)) 2 x) 3 0)))))) else some (r_28.2.2.1, r_28.1, r_28.2.2.2.1, r_28.2.1)))) = some (m1 + 1, nR + 1, sg', tF') ∧ QOK (m1 + 1) (fun i => tF' (sg' i) 0) (fun i => tF' (sg' i) 1) (fun i => tF' (sg' i) 2) (fun i => tF' (sg' i) 3) κ' (upd T1 (24 * one + two) x) (upd U1 (24 * one + two) 0) ∧ ∀ i, i < m1 + 1 → sg' i < nR + 1 := by
  obtain ⟨⟨R, t, c, s6, v⟩, l1, l2⟩ := s_insL (x := x) Q hm hs h12 h2 h0
  dsimp only at l2
  rw [chkP_n hm, l1, bnd_n]
  dsimp only
  rcases l2 with ⟨rfl, rfl, rfl, rfl, k1, k2⟩ | ⟨rfl, rfl, rfl, rfl, p, hp, L⟩
  · have hlt : ∀ i, i < c → s6 i < R := fun i hi => by rw [k1 i hi]; exact hs i hi
    have L : LIn c c R (24 * one + two) s1 (uN s6 c R) κ1 := ⟨fun i hi => by rw [uN_b (by omega)]; exact k1 i hi, uN_a, fun i h1 h2 => absurd h2 (by omega), k2, fun i h1 h2 => absurd h2 (by omega)⟩
    obtain ⟨⟨κ', Q'⟩, hb⟩ := QOK_ins (x := x) Q hm hs h12 h2 hx (Nat.le_refl c) L
    exact ⟨_, _, κ', by rw [if_pos rfl, chkP_n hs, chkP_n hlt, chkP_n (fun i hi => Nat.lt_succ_of_lt (hlt i hi)), chkP_n (by omega)], Q', hb⟩
  · obtain ⟨⟨κ', Q'⟩, hb⟩ := QOK_ins (x := x) Q hm hs h12 h2 hx (by omega) L
    exact ⟨_, _, κ', by rw [if_neg one_ne], Q', hb⟩
theorem s_tieIn (h : SM n k m A nR sg κ bF tF pF) (hW : WA n k A) {a b : Nat} (ha : a < n) (hb : b < n) (hab : a ≠ b) {x : Int32} (hx : 0 < x) :
    ∃ m' nR' sg' tF' κ', jS_tie_ m nR sg tF (nI a) (nI b) x = some (m', nR', sg', tF') ∧ QOK m' (fun i => tF' (sg' i) 0) (fun i => tF' (sg' i) 1) (fun i => tF' (sg' i) 2) (fun i => tF' (sg' i) 3) κ' (upd (A kM_strength) (pr a b) x) (upd (A kM_wear) (pr a b) 0) ∧ ∀ i, i < m' → sg' i < nR' := by
  have hn := hW.1
  have hm := h.2.2.2.1
  unfold jS_tie_
  rcases s_find h hW ha hb with ⟨i, hi, ei, h0, f⟩ | ⟨h0, f⟩
  · obtain ⟨⟨m1, s1⟩, u1, u2⟩ := s_untie h hi
    obtain ⟨κ1, Q1, l1⟩ := s_cutQ h hi u2
    have hs1 := KP_lt u2 h.2.2.2.2.1
    dsimp only at Q1 l1 hs1
    rw [ei] at Q1
    obtain ⟨sg', tF', κ', g1, g2, g3⟩ := s_insF (x := x) (one := min a b) (two := max a b) Q1 (by omega) hs1 (by omega) (by omega) (by
      show ¬ 0 < upd (A kM_strength) (pr a b) 0 (pr a b)
      rw [upd_a]
      decide) hx
    refine ⟨m1 + 1, nR + 1, sg', tF', κ', ?_, ?_, g3⟩
    · rw [f, bnd_n, mmin_n (by omega) (by omega), mmax_n (by omega) (by omega)]
      refine (jn_to (x := (m1, s1)) (fun kk => ?_)).trans g1
      rw [if_neg (fun z => by cases z), bnd_n, bnd_n, u1, bnd_n]
    · rw [show (24 * min a b + max a b) = pr a b from rfl, upd_upd, upd_upd] at g2
      exact g2
  · obtain ⟨sg', tF', κ', g1, g2, g3⟩ := s_insF (x := x) (one := min a b) (two := max a b) h.2.2.1 hm h.2.2.2.2.1 (by omega) (by omega) h0 hx
    refine ⟨m + 1, nR + 1, sg', tF', κ', ?_, g2, g3⟩
    rw [f, bnd_n, mmin_n (by omega) (by omega), mmax_n (by omega) (by omega)]
    refine (jn_to (x := (m, sg)) (fun kk => ?_)).trans g1
    rw [if_pos rfl]
end SMt
/-! the calls that change something -/
section Chg
variable {S : Nat → Nat → Int32} {n k w m r : Nat} {κ : Nat → Nat}
/-- who hands behind a call the same numbers -/
theorem RB_same {S2 : Nat → Nat → Int32} (hB : RelB S n k w m r κ) (h : Rel S2) (e0 : S2 0 = S 0) (e5 : S2 5 = S 5) (e23 : S2 23 = S 23) (e26 : S2 26 = S 26) : ∃ m2 κ2, RelB S2 n k w m2 r κ2 := by
  have h1 := hB.1
  have h3 := hB.2.2.1
  obtain ⟨m2, r2, κ2, hB2⟩ := RB_fix h ((congrFun e23 0).trans h1.1) hB.2.2.2.1.1 ((congrFun e26 0).trans h1.2.2.1) hB.2.2.2.1.2.1 ((congrFun e5 0).trans h1.2.2.2.2.1) hB.2.2.2.2.2.1.1.1
  have b1 := hB2.2.2.1.2.2.2.2
  have b2 := h3.2.2.2.2
  have er : r2 = r := (nI_eq (by omega) (by omega)).mp (hB2.2.2.1.2.1.symm.trans ((congrFun e0 0).trans h3.2.1))
  rw [er] at hB2
  exact ⟨m2, κ2, hB2⟩
theorem lq_setWind (hB : RelB S n k w m r κ) {a1 a2 : Int32} (h1 : ¬ a1 < -2) (h2 : ¬ 2 < a1) (h3 : ¬ a2 < -2) (h4 : ¬ 2 < a2) : ∃ S2 m2 κ2, op_setWind S a1 a2 = some (5 * (S 6 0 + 2) + S 7 0 + 2, S2) ∧ RelB S2 n k w m2 r κ2 ∧ S2 6 0 = a1 ∧ S2 7 0 = a2 ∧ ∀ j, j ≠ 6 → j ≠ 7 → j ≠ 60 → j ≠ 63 → j ≠ 64 → S2 j = S j := by
  have e1 : jX6_setWind (S 6 0) (S 7 0) a1 a2 = some (Sum.inr (5 * (S 6 0 + 2) + S 7 0 + 2, a1, a2)) := by
    unfold jX6_setWind jX6_isFlow
    rw [if_neg h1, if_neg h2, chkZ_b, bnd_n, if_neg one_ne, if_neg h3, if_neg h4, bnd_n, if_neg one_ne]
  obtain ⟨q', -, g1, g2⟩ := ox_setWind (RB_rel hB) e1
  have nk : ∀ j, j ≠ 6 → j ≠ 7 → j ≠ 60 → j ≠ 63 → j ≠ 64 → (up (up (up (up (up S 6 (fun _ => a1)) 7 (fun _ => a2)) 60 (fun _ => q'.2.1)) 63 (fun _ => q'.2.2.1)) 64 (fun _ => q'.2.2.2)) j = S j := fun j i1 i2 i3 i4 i5 => by
    unfold up
    rw [if_neg i5, if_neg i4, if_neg i3, if_neg i2, if_neg i1]
  obtain ⟨m2, κ2, hB2⟩ := RB_same hB g2 (nk 0 (by decide) (by decide) (by decide) (by decide) (by decide)) (nk 5 (by decide) (by decide) (by decide) (by decide) (by decide)) (nk 23 (by decide) (by decide) (by decide) (by decide) (by decide)) (nk 26 (by decide) (by decide) (by decide) (by decide) (by decide))
  exact ⟨_, m2, κ2, g1, hB2, rfl, rfl, nk⟩
theorem lq_load (hB : RelB S n k w m r κ) {b g : Nat} (hb : b < n) (h0 : S 19 b = 0) (hg : g ≤ 30) : ∃ S2 m2 κ2, op_load S (nI b) (nI g) = some (S 17 b, S2) ∧ RelB S2 n k w m2 r κ2 ∧ S2 17 = upd (S 17) b (nI g) ∧ ∀ j, j ≠ 17 → j ≠ 60 → j ≠ 68 → S2 j = S j := by
  have hn : n ≤ 24 := hB.2.2.2.1.1
  have e1 : jX6_load (S 23 0) (S 17) (S 19) (nI b) (nI g) = some (Sum.inr (S 17 b, upd (S 17) b (nI g))) := by
    unfold jX6_load
    rw [show S 23 0 = nI n from hB.1.1, c_has (by omega) (by omega), if_pos hb, bnd_n, if_neg one_ne, if_neg (n_neg (by omega)), if_pos (show nI g ≤ 30 from (nI_leI (b := 30) (by omega) (by omega)).mpr hg), c_floats hn hb, if_pos h0, bnd_n, if_neg one_ne, chk_n (by omega) (by omega), chk_n (by omega) (by omega), rd_n (by omega), wr_n (by omega)]
  obtain ⟨q', -, g1, g2⟩ := ox_load (RB_rel hB) e1
  have nk : ∀ j, j ≠ 17 → j ≠ 60 → j ≠ 68 → (up (up (up S 17 (upd (S 17) b (nI g))) 60 (fun _ => q'.2.1)) 68 q'.2.2) j = S j := fun j i1 i2 i3 => by
    unfold up
    rw [if_neg i3, if_neg i2, if_neg i1]
  obtain ⟨m2, κ2, hB2⟩ := RB_same hB g2 (nk 0 (by decide) (by decide) (by decide)) (nk 5 (by decide) (by decide) (by decide)) (nk 23 (by decide) (by decide) (by decide)) (nk 26 (by decide) (by decide) (by decide))
  exact ⟨_, m2, κ2, g1, hB2, rfl, nk⟩
theorem lq_bail (hB : RelB S n k w m r κ) {c b : Nat} (hc : c < k) (hb : b < n) (h0 : S 24 c = nI b) : ∃ S2 m2 κ2, op_bail S (nI c) = some (mmax 0 (S 16 b - 25), S2) ∧ RelB S2 n k w m2 r κ2 ∧ S2 16 = upd (S 16) b (mmax 0 (S 16 b - 25)) ∧ ∀ j, j ≠ 16 → j ≠ 60 → j ≠ 68 → S2 j = S j := by
  have hn : n ≤ 24 := hB.2.2.2.1.1
  have hk : k ≤ 8 := hB.2.2.2.1.2.1
  have e1 : jX6_bail (S 23 0) (S 16) (S 26 0) (S 24) (nI c) = some (Sum.inr (mmax 0 (S 16 b - 25), upd (S 16) b (mmax 0 (S 16 b - 25)))) := by
    unfold jX6_bail
    rw [show S 23 0 = nI n from hB.1.1, show S 26 0 = nI k from hB.1.2.2.1, show jX1_has (nI k) (nI c) = some (if c < k then 1 else 0) from c_has (by omega) (by omega), if_pos hc, bnd_n, if_neg one_ne, chk_n (by omega) (by omega), rd_n (f := S 24) (by omega), h0, c_has (by omega) (by omega), if_pos hb, bnd_n, if_neg one_ne, chk_n (by omega) (by omega), chk_n (by omega) (by omega), chk_n (by omega) (by omega), rd_n (f := S 16) (by omega), wr_n (by omega), rd_n (by omega), upd_a]
  obtain ⟨q', -, g1, g2⟩ := ox_bail (RB_rel hB) e1
  have nk : ∀ j, j ≠ 16 → j ≠ 60 → j ≠ 68 → (up (up (up S 16 (upd (S 16) b (mmax 0 (S 16 b - 25)))) 60 (fun _ => q'.2.1)) 68 q'.2.2) j = S j := fun j i1 i2 i3 => by
    unfold up
    rw [if_neg i3, if_neg i2, if_neg i1]
  obtain ⟨m2, κ2, hB2⟩ := RB_same hB g2 (nk 0 (by decide) (by decide) (by decide)) (nk 5 (by decide) (by decide) (by decide)) (nk 23 (by decide) (by decide) (by decide)) (nk 26 (by decide) (by decide) (by decide))
  exact ⟨_, m2, κ2, g1, hB2, rfl, nk⟩
theorem lq_go (hB : RelB S n k w m r κ) {c f b : Nat} (hc : c < k) (hf : f < n) (hb : b < n) (hs : S 24 c = nI f) (h0 : 0 < S 69 (pr f b)) : ∃ S2 m2 κ2, op_go S (nI c) (nI b) = some (S2 18 b, S2) ∧ RelB S2 n k w m2 r κ2 ∧ S2 24 = upd (S 24) c (nI b) ∧ ∀ j, j ≠ 18 → j ≠ 24 → j ≠ 60 → j ≠ 71 → S2 j = S j := by
  have hn : n ≤ 24 := hB.2.2.2.1.1
  have hk : k ≤ 8 := hB.2.2.2.1.2.1
  have hQ : QOK m (S 27) (S 28) (S 29) (S 30) κ (S 69) (S 70) := hB.2.2.2.2.2.2.2.1
  have hm := hQ.1
  obtain ⟨i, hi, hki, ef⟩ := (c_find hQ (by omega : f < 24) (by omega : b < 24)).1 h0
  have e1 : ∃ pe v, jX6_go (S 23 0) (S 18) (S 26 0) (S 24) (S 31 0) (S 27) (S 28) (nI c) (nI b) = some (Sum.inr (v, pe, upd (S 24) c (nI b))) ∧ v = pe b := by
    refine ⟨upd (upd (S 18) f (S 18 f - 1)) b (upd (S 18) f (S 18 f - 1) b + 1), _, ?_, rfl⟩
    unfold jX6_go
    rw [show S 23 0 = nI n from hB.1.1, show S 26 0 = nI k from hB.1.2.2.1, show S 31 0 = nI m from hB.1.2.2.2.2.2.2, show jX1_has (nI k) (nI c) = some (if c < k then 1 else 0) from c_has (by omega) (by omega), if_pos hc, bnd_n, if_neg one_ne, c_has (by omega) (by omega), if_pos hb, bnd_n, if_neg one_ne, chk_n (by omega) (by omega), rd_n (f := S 24) (by omega), hs, c_has (by omega) (by omega), if_pos hf, bnd_n, if_neg one_ne, ef, bnd_n, if_pos (n_nonneg (by omega)), chk_n (by omega) (by omega), chk_n (by omega) (by omega), chk_n (by omega) (by omega), chk_n (by omega) (by omega), chk_n (by omega) (by omega), chk_n (by omega) (by omega)]
    simp (disch := omega) only [rd_n, wr_n]
  obtain ⟨pe, v, e1, ev⟩ := e1
  obtain ⟨q', -, g1, g2⟩ := ox_go (RB_rel hB) e1
  have nk : ∀ j, j ≠ 18 → j ≠ 24 → j ≠ 60 → j ≠ 71 → (up (up (up (up S 18 pe) 24 (upd (S 24) c (nI b))) 60 (fun _ => q'.2.1)) 71 q'.2.2) j = S j := fun j i1 i2 i3 i4 => by
    unfold up
    rw [if_neg i4, if_neg i3, if_neg i2, if_neg i1]
  obtain ⟨m2, κ2, hB2⟩ := RB_same hB g2 (nk 0 (by decide) (by decide) (by decide) (by decide)) (nk 5 (by decide) (by decide) (by decide) (by decide)) (nk 23 (by decide) (by decide) (by decide) (by decide)) (nk 26 (by decide) (by decide) (by decide) (by decide))
  exact ⟨_, m2, κ2, by rw [g1, ev]; rfl, hB2, rfl, nk⟩
/-- behind a lashing set or taken away -/
theorem RB_list {S2 : Nat → Nat → Int32} {p r2 m' : Nat} {x : Int32} {κ' : Nat → Nat} (hB : RelB S n k w m r κ) (h : Rel S2) (hW' : WA n k (setA S p x)) (Q' : QOK m' (S2 27) (S2 28) (S2 29) (S2 30) κ' (upd (S 69) p x) (upd (S 70) p 0)) (hm : S2 31 0 = nI m') (hr2 : r2 ≤ 10) (e0 : S2 0 0 = nI r2) (nk : ∀ j, j ∈ [5, 23, 26, 14, 15, 16, 17, 18, 19, 20, 21, 24, 25] → S2 j = S j) : ∃ m2 κ2, RelB S2 n k w m2 r2 κ2 ∧ AE n k (setA S p x) S2 := by
  have h1 := hB.1
  obtain ⟨m2, r', κ2, hB2⟩ := RB_fix h ((congrFun (nk 23 (by decide)) 0).trans h1.1) hB.2.2.2.1.1 ((congrFun (nk 26 (by decide)) 0).trans h1.2.2.1) hB.2.2.2.1.2.1 ((congrFun (nk 5 (by decide)) 0).trans h1.2.2.2.2.1) hB.2.2.2.2.2.1.1.1
  have b1 := hB2.2.2.1.2.2.2.2
  have er : r' = r2 := (nI_eq (by omega) (by omega)).mp (hB2.2.2.1.2.1.symm.trans e0)
  rw [er] at hB2
  obtain ⟨z1, z2, z3⟩ := QOK_one (n := n) (st := setA S p x kB_state) Q' hB2.2.2.2.2.2.2.2.1 (hm.symm.trans hB2.1.2.2.2.2.2.2) hW'.2.2.2.2.1 hB2.2.2.2.1.2.2.2.2.1
  refine ⟨m2, κ2, hB2, fun j _ => ⟨congrFun (nk 14 (by decide)) j, congrFun (nk 15 (by decide)) j, congrFun (nk 16 (by decide)) j, congrFun (nk 17 (by decide)) j, congrFun (nk 18 (by decide)) j, congrFun (nk 19 (by decide)) j, congrFun (nk 20 (by decide)) j, congrFun (nk 21 (by decide)) j⟩, fun c _ => ⟨congrFun (nk 24 (by decide)) c, congrFun (nk 25 (by decide)) c⟩, z2, z3⟩
theorem lq_cut (hB : RelB S n k w m r κ) {a b : Nat} (ha : a < n) (hb : b < n) (h0 : 0 < S 69 (pr a b)) : ∃ S2 m2 κ2, op_cut S (nI a) (nI b) = some (nI (r + 1), S2) ∧ RelB S2 n k w m2 (r + 1) κ2 ∧ AE n k (setA S (pr a b) 0) S2 ∧ r + 1 ≤ 10 ∧ ∀ j, j ∈ [6, 7, 10, 11, 12, 13, 62] → S2 j = S j := by
  obtain ⟨⟨s1, s2, s3, s4, s5, s6, s7⟩, h2, ⟨t1, t2, t3, t4, t5⟩, hW, hR, hS, hP, hQ, hc, hz, hK⟩ := id hB
  have hn := hW.1
  have hm := hQ.1
  have s1' : S 23 0 = nI n := s1
  have s7' : S 31 0 = nI m := s7
  have t2' : S 0 0 = nI r := t2
  have hp := pr_lt (a := a) (b := b) (by omega) (by omega)
  obtain ⟨i, hi, hki, e5⟩ := (c_find hQ (by omega : a < 24) (by omega : b < 24)).1 h0
  have hab : a ≠ b := fun z => by
    obtain ⟨c', d', k1, k2, k3, -⟩ := hW.2.2.2.2.1 _ hp (i_pos_ne h0)
    rw [z] at k1
    unfold pr at k1
    omega
  have er : mmin 40 (nI r + 1) = nI (r + 1) := by
    rw [nI_1, show (40 : Int32) = nI 40 from rfl, mmin_n (by omega) (by omega)]; congr 1; omega
  have hW' : WA n k (setA S (pr a b) 0) := WA_set hW ha hb hab (by decide) (fun z => absurd z (by decide))
  obtain ⟨m', qf, qs, qt, qu, κ', g3, hm', Q'⟩ := QOK_sweep (T' := upd (S 69) (pr a b) 0) (U' := upd (S 70) (pr a b) 0) (t1 := upd (S 29) i 0) (u1 := S 30) hQ (fun j hj => by
      obtain ⟨-, -, q3, -⟩ := hQ.2.2 j hj
      by_cases q : j = i
      · rw [q, upd_a, hki, upd_a]
      · rw [upd_b q, upd_b (fun z => q (Q_inj hQ hj hi (by rw [z, hki])))]; exact q3) (fun j hj h0 => by
      obtain ⟨-, -, -, q4⟩ := hQ.2.2 j hj
      by_cases q : κ j = pr a b
      · rw [q, upd_a] at h0; exact absurd h0 (by decide)
      · rw [upd_b q]; exact q4) (fun q hq h1 => by
      by_cases z : q = pr a b
      · rw [z, upd_a] at h1; exact absurd h1 (by decide)
      · rw [upd_b z] at h1; exact h1)
  have hlt : m' < m := by
    rw [enu_tot hQ.2.1, enu_tot Q'.2.1]
    refine ns_lt (k := pr a b) (fun j hj => ?_) hp ?_
    · by_cases q : j = pr a b
      · rw [q, upd_a, if_neg (by decide)]; omega
      · rw [upd_b q]; exact Nat.le_refl _
    · rw [upd_a, if_neg (by decide), if_pos (decide_eq_true h0)]; omega
  obtain ⟨p', g4, P'⟩ := c_findPieces (p := S 22) (st := S 19) hn Q' hW'.2.2.2.2.1
  have g1 : jX6_cut (S 0 0) (S 23 0) (S 19) (S 22) (S 31 0) (S 27) (S 28) (S 29) (S 30) (nI a) (nI b) = some (.inr (nI (r + 1), nI (r + 1), p', nI m', qf, qs, qt, qu)) := by
    unfold jX6_cut
    rw [s1', c_has (by omega) (by omega), if_pos ha, bnd_n, if_neg one_ne, c_has (by omega) (by omega), if_pos hb, bnd_n, if_neg one_ne, s7', show jX2_find (nI m) (S 27) (S 28) (nI a) (nI b) = some (nI i) from e5, bnd_n, if_pos (n_nonneg (by omega)), c_undo (by omega), bnd_n, show jX2_sweep (nI m) (S 27) (S 28) (upd (S 29) i 0) (S 30) = some (nI m', qf, qs, qt, qu) from g3, bnd_n]
    dsimp only
    rw [g4, bnd_n, t2', er]
  obtain ⟨q', -, k1, k2⟩ := ox_cut (RB_rel hB) g1
  dsimp only at k1 k2
  obtain ⟨m2, κ2, hB2, hA⟩ := RB_list (r2 := r + 1) hB k2 hW' Q' rfl (by omega) rfl (fun j hj => by
    simp only [List.mem_cons, List.not_mem_nil, or_false] at hj
    rcases hj with rfl | rfl | rfl | rfl | rfl | rfl | rfl | rfl | rfl | rfl | rfl | rfl | rfl <;> rfl)
  exact ⟨_, m2, κ2, k1, hB2, hA, by omega, fun j hj => by
    simp only [List.mem_cons, List.not_mem_nil, or_false] at hj
    rcases hj with rfl | rfl | rfl | rfl | rfl | rfl | rfl <;> rfl⟩
theorem lq_tie (hB : RelB S n k w m r κ) {a b r0 st : Nat} (ha : a < n) (hb : b < n) (hab : a ≠ b) (f1 : S 19 a = 0) (f2 : S 19 b = 0) (f3 : mabs (S 12 a - S 12 b) + mabs (S 13 a - S 13 b) = 1) (f4 : S 20 a = S 20 b) (f5 : S 21 a = S 21 b) (hr : r = r0 + 1) (hst1 : 1 ≤ st) (hst2 : st ≤ 50) :
    ∃ S2 m2 κ2, op_tie S (nI a) (nI b) (nI st) = some (nI r0, S2) ∧ RelB S2 n k w m2 r0 κ2 ∧ AE n k (setA S (pr a b) (nI st)) S2 ∧ ∀ j, j ∈ [6, 7, 10, 11, 12, 13, 62] → S2 j = S j := by
  subst hr
  obtain ⟨⟨s1, s2, s3, s4, s5, s6, s7⟩, h2, ⟨t1, t2, t3, t4, t5⟩, hW, hR, hS, hP, hQ, hc, hz, hK⟩ := id hB
  have hn := hW.1
  have hm := hQ.1
  have s1' : S 23 0 = nI n := s1
  have s7' : S 31 0 = nI m := s7
  have t2' : S 0 0 = nI (r0 + 1) := t2
  have hne : ¬ nI a = nI b := fun z => hab ((nI_eq (by omega) (by omega)).mp z)
  have hst0 : (0 : Int32) < nI st := (nI_ltI (a := 0) (by omega) (by omega)).mpr hst1
  have hp := pr_lt (a := a) (b := b) (by omega) (by omega)
  have hcan' : jX0_canBeTied (nI n) (S 12) (S 13) (S 19) (S 20) (S 21) (nI a) (nI b) = some 1 := by rw [c_canBe hn ha hb, if_pos ⟨f1, f2, f3, f4, f5⟩]
  have hmk : ∃ m' qf qs qt qu κ', jX2_make (nI m) (S 27) (S 28) (S 29) (S 30) (nI (min a b)) (nI (max a b)) (nI st) = some (nI m', qf, qs, qt, qu) ∧ m' + r0 ≤ 10 ∧ QOK m' qf qs qt qu κ' (upd (S 69) (pr a b) (nI st)) (upd (S 70) (pr a b) 0) := by
    have hpm : pr (min a b) (max a b) = pr a b := by unfold pr; rw [show min (min a b) (max a b) = min a b by omega, show max (min a b) (max a b) = max a b by omega]
    obtain ⟨y1, y2⟩ := c_find hQ (by omega : min a b < 24) (by omega : max a b < 24)
    rw [hpm] at y1 y2
    unfold jX2_make
    by_cases h0 : 0 < S 69 (pr a b)
    · obtain ⟨i, hi, hki, e⟩ := y1 h0
      rw [show jX2_find (nI m) (S 27) (S 28) (nI (min a b)) (nI (max a b)) = some (nI i) from e, bnd_n, if_neg (n_neg (by omega)), c_renew (by omega), bnd_n]
      have := QOK_renew (x := nI st) hQ hi hst0
      rw [hki] at this
      exact ⟨m, _, _, _, _, κ, rfl, by omega, this⟩
    · rw [show jX2_find (nI m) (S 27) (S 28) (nI (min a b)) (nI (max a b)) = some (-1) from y2 h0, bnd_n, if_pos m1_neg, if_neg (show ¬ (48 : Int32) ≤ nI m from fun z => by have := (nI_leI (a := 48) (by omega) (by omega)).mp z; omega)]
      have e24 : 24 * min a b + max a b = pr a b := rfl
      obtain ⟨qf, qs, qt, qu, κ', e, Q'⟩ := c_insert (x := nI st) hQ (by omega : m < 48) (by omega : min a b < max a b) (by omega : max a b < 24) (by rw [e24]; exact h0) hst0
      rw [e24] at Q'
      rw [show jX2_insert (nI m) (S 27) (S 28) (S 29) (S 30) (nI (min a b)) (nI (max a b)) (nI st) = some (nI (m + 1), qf, qs, qt, qu) from e, bnd_n]
      exact ⟨m + 1, _, _, _, _, κ', rfl, by omega, Q'⟩
  obtain ⟨m', qf, qs, qt, qu, κ', g3, hm', Q'⟩ := hmk
  have hW' : WA n k (setA S (pr a b) (nI st)) := WA_set hW ha hb hab (n_nonneg (by omega)) (fun _ => ⟨f1, f2, f4, f5⟩)
  obtain ⟨p', g4, P'⟩ := c_findPieces (p := S 22) (st := S 19) hn Q' hW'.2.2.2.2.1
  have g1 : jX6_tie (S 0 0) (S 23 0) (S 12) (S 13) (S 19) (S 20) (S 21) (S 22) (S 31 0) (S 27) (S 28) (S 29) (S 30) (nI a) (nI b) (nI st) = some (.inr (nI r0, nI r0, p', nI m', qf, qs, qt, qu)) := by
    unfold jX6_tie
    rw [s1', c_has (by omega) (by omega), if_pos ha, bnd_n, if_neg one_ne, c_has (by omega) (by omega), if_pos hb, bnd_n, if_neg one_ne, if_neg hne, if_neg (show ¬ nI st < 1 from fun z => by have := (nI_ltI (b := 1) (by omega) (by omega)).mp z; omega), if_pos (show nI st ≤ 50 from (nI_leI (b := 50) (by omega) (by omega)).mpr hst2), hcan', bnd_n, if_neg one_ne, t2', if_pos (show (0 : Int32) < nI (r0 + 1) from (nI_ltI (a := 0) (by omega) (by omega)).mpr (by omega)), mmin_n (by omega) (by omega), mmax_n (by omega) (by omega), s7', g3, bnd_n]
    dsimp only
    rw [g4, bnd_n, nI_pred]
  obtain ⟨q', -, k1, k2⟩ := ox_tie (RB_rel hB) g1
  dsimp only at k1 k2
  obtain ⟨m2, κ2, hB2, hA⟩ := RB_list (r2 := r0) hB k2 hW' Q' rfl (by omega) rfl (fun j hj => by
    simp only [List.mem_cons, List.not_mem_nil, or_false] at hj
    rcases hj with rfl | rfl | rfl | rfl | rfl | rfl | rfl | rfl | rfl | rfl | rfl | rfl | rfl <;> rfl)
  exact ⟨_, m2, κ2, k1, hB2, hA, fun j hj => by
    simp only [List.mem_cons, List.not_mem_nil, or_false] at hj
    rcases hj with rfl | rfl | rfl | rfl | rfl | rfl | rfl <;> rfl⟩
end Chg
