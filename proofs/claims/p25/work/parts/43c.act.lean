/-! what the law does ahead of an hour -/
def CO (n : Nat) (S bF : Nat → Nat → Int32) : Prop := ∀ j, j < n → bF j 0 = S 12 j ∧ bF j 1 = S 13 j
/-- the class, the law's own raft and what the law holds, between two hours -/
def IV (n k w t : Nat) (S : Nat → Nat → Int32) (ropes wx wy : Int32) (nT nR : Nat) (sg : Nat → Nat) (wF bF tF pF : Nat → Nat → Int32) : Prop :=
  ∃ m r κ κs, RelB S n k w m r κ ∧ XI n k S ∧ SM n k nT S nR sg κs bF tF pF ∧ SW w (S 62) wF ∧ (ropes = nI r ∧ wx = S 6 0 ∧ wy = S 7 0 ∧ S 10 0 = nI t) ∧ CO n S bF
theorem bl_n (v : Int32) {N : Nat} (h0 : 0 < N) (hN : N < 2 ^ 31) : ∃ j, j < N ∧ bl v (nI N) = nI j := by
  obtain ⟨a, ha, e⟩ := pk_andE v (m := 2147483647) 31 (by decide)
  exact ⟨a % N, Nat.mod_lt _ h0, by unfold bl; rw [e, pk_rem ha h0 hN]⟩
theorem n_ne0 {n : Nat} (h0 : 0 < n) (hn : n < 2 ^ 31) : ¬ nI n = 0 := fun z => by
  have := (nI_eq (b := 0) hn (by omega)).mp z
  omega
theorem XI_set {n k p st : Nat} {S : Nat → Nat → Int32} (hX : XI n k S) (hst : st ≤ 50) : XI n k (setA S p (nI st)) := by
  refine ⟨fun q hq h0 => ?_, hX.2.1, hX.2.2⟩
  replace h0 : 0 < upd (S 69) p (nI st) q := h0
  show ∃ d, d ≤ 50 ∧ upd (S 69) p (nI st) q - upd (S 70) p 0 q = nI d
  by_cases z : q = p
  · rw [z, upd_a, upd_a, Int32.sub_zero]
    exact ⟨st, hst, rfl⟩
  · rw [upd_b z] at h0
    rw [upd_b z, upd_b z]
    exact hX.1 q hq h0
section Act
variable {S : Nat → Nat → Int32} {n k w t nT nR : Nat} {ropes wx wy : Int32} {sg : Nat → Nat} {wF bF tF pF : Nat → Nat → Int32}
theorem SM_set {p m' nR' m2 : Nat} {x : Int32} {κs sg' κ' : Nat → Nat} {tF' S2 : Nat → Nat → Int32} (h : SM n k nT S nR sg κs bF tF pF) (Q' : QOK m' (fun i => tF' (sg' i) 0) (fun i => tF' (sg' i) 1) (fun i => tF' (sg' i) 2) (fun i => tF' (sg' i) 3) κ' (upd (S 69) p x) (upd (S 70) p 0)) (hs : ∀ i, i < m' → sg' i < nR') (hA : AE n k (setA S p x) S2) {f s tt u : Nat → Int32} {κ2 : Nat → Nat} (Q2 : QOK m2 f s tt u κ2 (S2 69) (S2 70)) (hm2 : m2 ≤ 10) : SM n k m' S2 nR' sg' κ' bF tF' pF := by
  have e : m' = m2 := by
    rw [enu_tot Q'.2.1, enu_tot Q2.2.1]
    refine ns_congr fun q hq => ?_
    rw [show S2 69 q = upd (S 69) p x q from hA.2.2.1 q hq]
  exact SM_ae hA ⟨h.1, h.2.1, Q', by omega, hs, h.2.2.2.2.2⟩
theorem t_look (x : Int32) (hn0 : 0 < n) (hn : n ≤ 24) {a : Nat} (ha : a < n) : ∃ r, jL_tie_L16 x n (nI a) ropes n bF n 0 = some r ∧ (r = Sum.inr () ∨ ∃ o, o < n ∧ r = Sum.inl (nI o) ∧ mabs (bF a 0 - bF o 0) + mabs (bF a 1 - bF o 1) = 1 ∧ ¬ 0 < bF a 6 + bF o 6 ∧ bF a 7 = bF o 7 ∧ bF a 8 = bF o 8 ∧ ¬ ropes = 0) := by
  obtain ⟨c, hc, ec⟩ := bl_n (shr5 x 4) hn0 (by omega)
  refine itN (fun f j (_ : Unit) => jL_tie_L16 x n (nI a) ropes n bF f j) n (fun _ _ => True) _ (fun s _ => ⟨_, rfl, Or.inl rfl⟩) (fun f j s hj _ => ?_) n 0 () (by omega) trivial
  have ho : (j + c) % n < n := Nat.mod_lt _ hn0
  rw [jL_tie_L16, ec, nI_add, pk_rem (by omega) hn0 (by omega), chkP_n (n_ne0 hn0 (by omega)), chkP_n (n_ne0 hn0 (by omega)), chk_n ha (by omega), chk_n ho (by omega), clamp_n (j := a) (by omega), clamp_n (j := (j + c) % n) (by omega)]
  simp only [rd0, rd1, rd6, rd7, rd8]
  by_cases z1 : mabs (bF a 0 - bF ((j + c) % n) 0) + mabs (bF a 1 - bF ((j + c) % n) 1) = 1
  · rw [if_pos z1]
    by_cases z2 : 0 < bF a 6 + bF ((j + c) % n) 6
    · exact Or.inr ⟨(), trivial, by rw [if_pos z2]⟩
    · rw [if_neg z2]
      by_cases z3 : bF a 7 = bF ((j + c) % n) 7
      · rw [if_pos z3]
        by_cases z4 : bF a 8 = bF ((j + c) % n) 8
        · rw [if_pos z4]
          by_cases z5 : ropes = 0
          · exact Or.inr ⟨(), trivial, by rw [if_pos z5]⟩
          · exact Or.inl ⟨_, by rw [if_neg z5], Or.inr ⟨_, ho, rfl, z1, z2, z3, z4, z5⟩⟩
        · exact Or.inr ⟨(), trivial, by rw [if_neg z4]⟩
      · exact Or.inr ⟨(), trivial, by rw [if_neg z3]⟩
  · exact Or.inr ⟨(), trivial, by rw [if_neg z1]⟩
theorem tie_ok (h : IV n k w t S ropes wx wy nT nR sg wF bF tF pF) (hn0 : 0 < n) (x : Int32) : ∃ ropes' nT' nR' sg' tF' S', jL_tie ropes n nT nR sg bF tF S x = some (1, ropes', nT', nR', sg', tF', S') ∧ IV n k w t S' ropes' wx wy nT' nR' sg' wF bF tF' pF ∧ ∀ j, j < n → S' 19 j = S 19 j := by
  obtain ⟨m, r, κ, κs, hB, hX, hM, hw, ⟨e1, e2, e3, e4⟩, hCo⟩ := id h
  have hW : WA n k S := hB.2.2.2.1
  have hn := hW.1
  obtain ⟨a, ha, ea⟩ := bl_n x hn0 (by omega)
  obtain ⟨q, l1, l2⟩ := t_look (ropes := ropes) (bF := bF) x hn0 hn ha
  unfold jL_tie
  rw [chkP_n (n_ne0 hn0 (by omega)), chkP_n hn, ea, l1, bnd_n]
  rcases l2 with rfl | ⟨o, ho, rfl, c1, c2, c3, c4, c5⟩
  · exact ⟨ropes, nT, nR, sg, tF, S, by rw [sel_b, chkZ_b], h, fun _ _ => rfl⟩
  · rw [sel_a]
    obtain ⟨a2, a3, a4, a5, a6, a7, a8⟩ := hM.1 a ha
    obtain ⟨o2, o3, o4, o5, o6, o7, o8⟩ := hM.1 o ho
    have b6 : bF a 6 = S 19 a := a6
    have d6 : bF o 6 = S 19 o := o6
    have hab : a ≠ o := fun z => by
      rw [z, Int32.sub_self, Int32.sub_self] at c1
      exact absurd c1 (by decide)
    rw [b6, d6] at c2
    have fl : S 19 a = 0 ∧ S 19 o = 0 := by
      rcases hM.2.2.2.2.2.1 a ha with y | y | y <;> rcases hM.2.2.2.2.2.1 o ho with z | z | z <;> (have y' : S 19 a = _ := y; have z' : S 19 o = _ := z; rw [y', z'] at c2) <;> first | exact ⟨y', z'⟩ | exact absurd (by decide) c2
    rw [(hCo a ha).1, (hCo a ha).2, (hCo o ho).1, (hCo o ho).2] at c1
    obtain ⟨r0, rfl⟩ : ∃ r0, r = r0 + 1 := ⟨r - 1, by
      have : r ≠ 0 := fun z => c5 (by rw [e1, z]; rfl)
      omega⟩
    obtain ⟨st, hst, es⟩ := bl_n (shr5 x 2) (N := 50) (by omega) (by omega)
    have es' : 1 + bl (shr5 x 2) 50 = nI (st + 1) := by
      rw [show bl (shr5 x 2) 50 = nI st from es, Int32.add_comm, nI_1]
    obtain ⟨m', nR', sg', tF', κ', t1, t2, t3⟩ := s_tieIn (x := nI (st + 1)) hM hW ha ho hab ((nI_ltI (a := 0) (by omega) (by omega)).mpr (by omega))
    obtain ⟨S2, m2, κ2, t4, t5, t6, t7⟩ := lq_tie (st := st + 1) hB ha ho hab fl.1 fl.2 c1 (by have := a7.symm.trans (c3.trans o7); exact this) (by have := a8.symm.trans (c4.trans o8); exact this) rfl (by omega) (by omega)
    refine ⟨ropes - 1, m', nR', sg', tF', S2, ?_, ⟨m2, r0, κ2, κ', t5, XI_ae t6 (XI_set hX (by omega)), ?_, ?_, ⟨?_, ?_, ?_, ?_⟩, fun j hj => ?_⟩, fun j hj => (t6.1 j hj).2.2.2.2.2.1⟩
    · rw [es', t1, bnd_n, t4, bnd_n]
      dsimp only
      rw [if_pos (by rw [e1, nI_pred]), chkZ_b]
    · have b := t5.2.2.1.2.2.2.2
      exact SM_set hM t2 t3 t6 t5.2.2.2.2.2.2.2.1 (by omega)
    · rw [t7 62 (by decide)]; exact hw
    · rw [e1, nI_pred]
    · rw [t7 6 (by decide)]; exact e2
    · rw [t7 7 (by decide)]; exact e3
    · rw [t7 10 (by decide)]; exact e4
    · rw [t7 12 (by decide), t7 13 (by decide)]; exact hCo j hj
theorem bail_n : ∀ g, g < 101 → mmax 0 (nI g - 25) = (if nI g ≤ 25 then 0 else nI g - 25) ∧ ∃ g', g' ≤ 100 ∧ mmax 0 (nI g - 25) = nI g' := by
  intro g hg
  by_cases z : g ≤ 25
  · have e : ∀ g, g < 26 → mmax 0 (nI g - 25) = 0 := by decide +kernel
    rw [e g (by omega), if_pos (show nI g ≤ 25 from (nI_leI (b := 25) (by omega) (by omega)).mpr z)]
    exact ⟨rfl, 0, by omega, rfl⟩
  · have e : mmax 0 (nI g - 25) = nI (g - 25) := by
      rw [show (25 : Int32) = nI 25 from rfl, pk_sub (by omega), show (0 : Int32) = nI 0 from rfl, mmax_n (by omega) (by omega), Nat.zero_max]
    rw [e, if_neg (show ¬ nI g ≤ 25 from fun y => z ((nI_leI (b := 25) (by omega) (by omega)).mp y)), show (25 : Int32) = nI 25 from rfl, pk_sub (by omega)]
    exact ⟨rfl, g - 25, by omega, rfl⟩
theorem flow_n : ∀ v, v < 5 → ¬ (nI v - 2 < -2) ∧ ¬ (2 < nI v - 2) := by decide +kernel
theorem act_ok (h : IV n k w t S ropes wx wy nT nR sg wF bF tF pF) (hn0 : 0 < n) (x : Int32) :
    ∃ ropes' wx' wy' nT' nR' sg' bF' tF' pF' S', jL_act ropes wx wy n nT k nR sg bF tF pF S x = some (1, ropes', wx', wy', nT', nR', sg', bF', tF', pF', S') ∧ IV n k w t S' ropes' wx' wy' nT' nR' sg' wF bF' tF' pF' := by
  obtain ⟨m, r, κ, κs, hB, hX, hM, hw, ⟨e1, e2, e3, e4⟩, hCo⟩ := id h
  have hW : WA n k S := hB.2.2.2.1
  have hn := hW.1
  have hk := hW.2.1
  have hc : ∃ c : Int32, (∀ kk : Int32 → Option (Int32 × Int32 × Int32 × Int32 × Nat × Nat × (Nat → Nat) × (Nat → Nat → Int32) × (Nat → Nat → Int32) × (Nat → Nat → Int32) × (Nat → Nat → Int32)), (if nI k = 0 then kk (-1) else chkP (¬ (nI k) = 0) (kk (bl (shr5 x 3) (nI k)))) = kk c) ∧ (c = -1 ∨ ∃ j, j < k ∧ c = nI j) := by
    rcases Nat.eq_zero_or_pos k with z | z
    · exact ⟨-1, fun kk => by rw [z]; exact if_pos rfl, Or.inl rfl⟩
    · obtain ⟨j, hj, ej⟩ := bl_n (shr5 x 3) z (by omega)
      exact ⟨nI j, fun kk => by rw [if_neg (n_ne0 z (by omega)), chkP_n (n_ne0 z (by omega)), ej], Or.inr ⟨j, hj, rfl⟩⟩
  obtain ⟨c, hc1, hc2⟩ := hc
  obtain ⟨v, hv, ev⟩ := bl_n (shr5 x 6) (N := 7) (by omega) (by omega)
  have ev' : bl (shr5 x 6) 7 = nI v := ev
  obtain ⟨b, hb, eb⟩ := bl_n x hn0 (by omega)
  have keep : ∃ ropes' wx' wy' nT' nR' sg' bF' tF' pF' S', (chkZ 1 (some ((1 : Int32), ropes, wx, wy, nT, nR, sg, bF, tF, pF, S)) : Option _) = some (1, ropes', wx', wy', nT', nR', sg', bF', tF', pF', S') ∧ IV n k w t S' ropes' wx' wy' nT' nR' sg' wF bF' tF' pF' := ⟨ropes, wx, wy, nT, nR, sg, bF, tF, pF, S, chkZ_b, h⟩
  unfold jL_act
  rw [chkP_n (n_ne0 hn0 (by omega)), jn_to hc1, ev']
  rcases (by omega : v = 0 ∨ v = 1 ∨ v = 2 ∨ v = 3 ∨ v = 4 ∨ v = 5 ∨ v = 6) with rfl | rfl | rfl | rfl | rfl | rfl | rfl
  · rw [if_pos (by decide)]
    obtain ⟨ropes', nT', nR', sg', tF', S', g1, g2, -⟩ := tie_ok h hn0 (shr5 x 2)
    exact ⟨ropes', wx, wy, nT', nR', sg', bF, tF', pF, S', by rw [g1, bnd_n]; exact chkZ_b, g2⟩
  · rw [if_neg (by decide), if_pos (by decide)]
    have hm10 := hM.2.2.2.1
    rcases Nat.eq_zero_or_pos nT with z | z
    · rw [if_pos (by rw [z]; rfl)]
      exact keep
    · obtain ⟨i, hi, ei⟩ := bl_n x z (by omega)
      obtain ⟨a, d, had, hd, ek, f0, f1, -, -, d0, -, -, -, hR⟩ := s_at hM hW hi
      obtain ⟨y, u1, u2⟩ := s_untie hM hi
      obtain ⟨κ', Q', -⟩ := s_cutQ hM hi u2
      have ep : κs i = pr d a := by rw [pr_comm, pr_of had, ek]
      rw [ep] at Q' d0
      obtain ⟨S2, m2, κ2, t4, t5, t6, t8, t7⟩ := lq_cut hB hd (show a < n by omega) d0
      rw [if_neg (n_ne0 z (by omega)), chkP_n (n_ne0 z (by omega)), ei, chk_n hi (by omega), clamp_n (by omega), chkP_n hR, u1, bnd_n, rd1, rd0, f0, f1, t4, bnd_n]
      dsimp only
      have er : nI (r + 1) = mmin 40 (ropes + 1) := by
        rw [e1, nI_1, show (40 : Int32) = nI 40 from rfl, mmin_n (by omega) (by omega)]
        congr 1
        omega
      refine ⟨_, _, _, _, _, _, _, _, _, S2, by rw [if_pos er, chkZ_b], m2, r + 1, κ2, κ', t5, XI_ae t6 (XI_set (st := 0) hX (by omega)), ?_, ?_, ⟨er.symm, ?_, ?_, ?_⟩, fun j hj => ?_⟩
      · have b := t5.2.2.1.2.2.2.2
        exact SM_set hM Q' (KP_lt u2 hM.2.2.2.2.1) t6 t5.2.2.2.2.2.2.2.1 (by omega)
      · rw [t7 62 (by decide)]; exact hw
      · rw [t7 6 (by decide)]; exact e2
      · rw [t7 7 (by decide)]; exact e3
      · rw [t7 10 (by decide)]; exact e4
      · rw [t7 12 (by decide), t7 13 (by decide)]; exact hCo j hj
  · rw [if_neg (by decide), if_neg (by decide), if_pos (by decide), eb, chk_n hb (by omega), clamp_n (by omega), rd6]
    obtain ⟨-, -, -, a5, a6, -, -⟩ := hM.1 b hb
    have a6' : bF b 6 = S 19 b := a6
    have a5' : bF b 5 = S 17 b := a5
    rw [a6']
    by_cases z : S 19 b ≤ 0
    · have h0 : S 19 b = 0 := by
        rcases hM.2.2.2.2.2.1 b hb with y | y | y
        · exact y
        · rw [show S 19 b = 1 from y] at z; exact absurd z (by decide)
        · rw [show S 19 b = 2 from y] at z; exact absurd z (by decide)
      obtain ⟨g, hg, eg⟩ := bl_n (shr5 x 2) (N := 31) (by omega) (by omega)
      have eg' : bl (shr5 x 2) 31 = nI g := eg
      obtain ⟨S2, m2, κ2, t4, t5, t6, t7⟩ := lq_load (g := g) hB hb h0 (by omega)
      rw [if_pos z, chk_n hb (by omega), chk_n hb (by omega), chk_n hb (by omega), eg', uF_a, rd5, rd5, wr5, upd_a, t4, bnd_n]
      dsimp only
      have s19 := t7 19 (by decide) (by decide) (by decide)
      refine ⟨_, _, _, _, _, _, _, _, _, S2, by rw [if_pos a5'.symm, chkZ_b], m2, r, κ2, κs, t5, ⟨?_, fun j hj => ?_, ?_⟩, ⟨fun j hj => ?_, ?_, ?_, hM.2.2.2.1, hM.2.2.2.2.1, ?_⟩, ?_, ⟨e1, ?_, ?_, ?_⟩, fun j hj => ?_⟩
      · rw [t7 69 (by decide) (by decide) (by decide), t7 70 (by decide) (by decide) (by decide)]; exact hX.1
      · rw [s19, t6, t7 15 (by decide) (by decide) (by decide), t7 16 (by decide) (by decide) (by decide), t7 20 (by decide) (by decide) (by decide)]
        obtain ⟨x1, x2, x3, x4, x5⟩ := hX.2.1 j hj
        refine ⟨x1, fun y => ?_, x3, x4, x5⟩
        rw [upd_b (fun e => by rw [e, h0] at y; exact absurd y (by decide))]
        exact x2 y
      · rw [t7 24 (by decide) (by decide) (by decide), t7 25 (by decide) (by decide) (by decide)]; exact hX.2.2
      · obtain ⟨p2, p3, p4, p5, p6, p7, p8⟩ := hM.1 j hj
        show _ = S2 14 j ∧ _ = S2 15 j ∧ _ = S2 16 j ∧ _ = S2 17 j ∧ _ = S2 19 j ∧ _ = S2 20 j ∧ _ = S2 21 j
        rw [s19, t6, t7 14 (by decide) (by decide) (by decide), t7 15 (by decide) (by decide) (by decide), t7 16 (by decide) (by decide) (by decide), t7 20 (by decide) (by decide) (by decide), t7 21 (by decide) (by decide) (by decide)]
        by_cases y : j = b
        · rw [y] at p2 p3 p4 p6 p7 p8 ⊢
          rw [uF_a]
          exact ⟨(upd_b (by decide)).trans p2, (upd_b (by decide)).trans p3, (upd_b (by decide)).trans p4, by rw [upd_a, upd_a], (upd_b (by decide)).trans p6, (upd_b (by decide)).trans p7, (upd_b (by decide)).trans p8⟩
        · rw [uF_b y, upd_b y]
          exact ⟨p2, p3, p4, p5, p6, p7, p8⟩
      · show ∀ c, c < k → _ = S2 24 c ∧ _ = S2 25 c
        rw [t7 24 (by decide) (by decide) (by decide), t7 25 (by decide) (by decide) (by decide)]; exact hM.2.1
      · show QOK nT _ _ _ _ κs (S2 69) (S2 70)
        rw [t7 69 (by decide) (by decide) (by decide), t7 70 (by decide) (by decide) (by decide)]; exact hM.2.2.1
      · show (∀ j, j < n → S2 19 j = 0 ∨ S2 19 j = 1 ∨ S2 19 j = 2) ∧ ∀ c, c < k → S2 25 c = 0 ∨ S2 25 c = 1 ∨ S2 25 c = 2
        rw [s19, t7 25 (by decide) (by decide) (by decide)]; exact hM.2.2.2.2.2
      · rw [t7 62 (by decide) (by decide) (by decide)]; exact hw
      · rw [t7 6 (by decide) (by decide) (by decide)]; exact e2
      · rw [t7 7 (by decide) (by decide) (by decide)]; exact e3
      · rw [t7 10 (by decide) (by decide) (by decide)]; exact e4
      · rw [t7 12 (by decide) (by decide) (by decide), t7 13 (by decide) (by decide) (by decide)]
        by_cases y : j = b
        · rw [y, uF_a, upd_b (by decide), upd_b (by decide)]; exact hCo b hb
        · rw [uF_b y]; exact hCo j hj
    · rw [if_neg z]
      exact keep
  · rw [if_neg (by decide), if_neg (by decide), if_neg (by decide), if_pos (by decide)]
    rcases hc2 with rfl | ⟨j, hj, rfl⟩
    · rw [if_pos (by decide)]
      exact keep
    · obtain ⟨p0, p1⟩ := hM.2.1 j hj
      have p0' : pF j 0 = S 24 j := p0
      rw [if_neg (n_neg (by omega)), chk_n hj (by omega), clamp_n (by omega), rd0, p0', eb]
      rcases hW.2.2.2.1 j hj with es | ⟨f, hf, es, hs⟩
      · rw [if_pos (by rw [show S 24 j = -1 from es]; decide)]
        exact keep
      · have es' : S 24 j = nI f := es
        rw [es', if_neg (n_neg (by omega)), chk_n hj (by omega)]
        rcases s_find hM hW hf hb with ⟨i, hi, ei, h0, g0⟩ | ⟨h0, g0⟩
        · obtain ⟨S2, m2, κ2, t4, t5, t6, t7⟩ := lq_go hB hj hf hb es' h0
          have t5W : WA n k S2 := t5.2.2.2.1
          have hM2 : SM n k nT S2 nR sg κs bF tF (uF pF j (wr (pF j) 0 (nI b))) := by
            refine ⟨?_, fun c hc => ?_, ?_, hM.2.2.2.1, hM.2.2.2.2.1, ?_⟩
            · show ∀ j, j < n → _ = S2 14 j ∧ _ = S2 15 j ∧ _ = S2 16 j ∧ _ = S2 17 j ∧ _ = S2 19 j ∧ _ = S2 20 j ∧ _ = S2 21 j
              rw [t7 14 (by decide) (by decide) (by decide) (by decide), t7 15 (by decide) (by decide) (by decide) (by decide), t7 16 (by decide) (by decide) (by decide) (by decide), t7 17 (by decide) (by decide) (by decide) (by decide), t7 19 (by decide) (by decide) (by decide) (by decide), t7 20 (by decide) (by decide) (by decide) (by decide), t7 21 (by decide) (by decide) (by decide) (by decide)]
              exact hM.1
            · show _ = S2 24 c ∧ _ = S2 25 c
              rw [t6, t7 25 (by decide) (by decide) (by decide) (by decide)]
              by_cases y : c = j
              · rw [y, uF_a, wr0, upd_a, upd_a, upd_b (by decide)]
                exact ⟨rfl, p1⟩
              · rw [uF_b y, upd_b y]
                exact hM.2.1 c hc
            · show QOK nT _ _ _ _ κs (S2 69) (S2 70)
              rw [t7 69 (by decide) (by decide) (by decide) (by decide), t7 70 (by decide) (by decide) (by decide) (by decide)]; exact hM.2.2.1
            · show (∀ j, j < n → S2 19 j = 0 ∨ S2 19 j = 1 ∨ S2 19 j = 2) ∧ ∀ c, c < k → S2 25 c = 0 ∨ S2 25 c = 1 ∨ S2 25 c = 2
              rw [t7 19 (by decide) (by decide) (by decide) (by decide), t7 25 (by decide) (by decide) (by decide) (by decide)]; exact hM.2.2.2.2.2
          have ldS := s_load hM2 t5W hb
          have b5 : bF b 5 = S2 17 b := (hM2.1 b hb).2.2.2.1
          obtain ⟨pp, hpp, epp⟩ := fs_cnt (P := fun c => S2 24 c = nI b) k
          have e18 : S2 18 b = nI pp := ((t5W.2.2.1 b hb).2.2.2).trans epp
          have eq : S2 18 b = (ld S2 b - bF b 5) / 7 := by
            rw [b5]
            unfold ld
            show S2 18 b = (S2 17 b + 7 * S2 18 b - S2 17 b) / 7
            rw [show S2 17 b + 7 * S2 18 b - S2 17 b = 7 * S2 18 b by grind, e18, show (7 : Int32) = nI 7 from rfl, pk_mul, pk_div (by omega) (by omega) (by omega)]
            congr 1
            omega
          rw [g0, bnd_n, if_neg (fun z => by cases z), chk_n hj (by omega), t4, bnd_n]
          dsimp only
          rw [ldS, bnd_n, chk_n hb (by omega), clamp_n (by omega), rd5, if_pos eq, chkZ_b]
          refine ⟨_, _, _, _, _, _, _, _, _, S2, rfl, m2, r, κ2, κs, t5, ⟨?_, ?_, fun c hc => ?_⟩, hM2, ?_, ⟨e1, ?_, ?_, ?_⟩, ?_⟩
          · rw [t7 69 (by decide) (by decide) (by decide) (by decide), t7 70 (by decide) (by decide) (by decide) (by decide)]; exact hX.1
          · rw [t7 19 (by decide) (by decide) (by decide) (by decide), t7 17 (by decide) (by decide) (by decide) (by decide), t7 15 (by decide) (by decide) (by decide) (by decide), t7 16 (by decide) (by decide) (by decide) (by decide), t7 20 (by decide) (by decide) (by decide) (by decide)]; exact hX.2.1
          · rw [t6, t7 25 (by decide) (by decide) (by decide) (by decide)]
            by_cases y : c = j
            · rw [y, upd_a]
              exact ⟨fun z => absurd z (n_m1 (by omega)), (hX.2.2 j hj).2⟩
            · rw [upd_b y]
              exact hX.2.2 c hc
          · rw [t7 62 (by decide) (by decide) (by decide) (by decide)]; exact hw
          · rw [t7 6 (by decide) (by decide) (by decide) (by decide)]; exact e2
          · rw [t7 7 (by decide) (by decide) (by decide) (by decide)]; exact e3
          · rw [t7 10 (by decide) (by decide) (by decide) (by decide)]; exact e4
          · unfold CO
            rw [t7 12 (by decide) (by decide) (by decide) (by decide), t7 13 (by decide) (by decide) (by decide) (by decide)]; exact hCo
        · rw [g0, bnd_n, if_pos rfl]
          exact keep
  · rw [if_neg (by decide), if_neg (by decide), if_neg (by decide), if_neg (by decide), if_pos (by decide)]
    rcases hc2 with rfl | ⟨j, hj, rfl⟩
    · rw [if_pos (by decide)]
      exact keep
    · obtain ⟨p0, p1⟩ := hM.2.1 j hj
      have p0' : pF j 0 = S 24 j := p0
      rw [if_neg (n_neg (by omega)), chk_n hj (by omega), clamp_n (by omega), rd0, p0']
      rcases hW.2.2.2.1 j hj with es | ⟨f, hf, es, hs⟩
      · rw [if_neg (by rw [show S 24 j = -1 from es]; decide)]
        exact keep
      · have es' : S 24 j = nI f := es
        obtain ⟨S2, m2, κ2, t4, t5, t6, t7⟩ := lq_bail hB hj hf es'
        obtain ⟨-, -, a4, -, -, -, -⟩ := hM.1 f hf
        have a4' : bF f 4 = S 16 f := a4
        obtain ⟨-, -, ⟨g, hg, eg⟩, -, -⟩ := hX.2.1 f hf
        obtain ⟨bn1, g', hg', bn2⟩ := bail_n g (by omega)
        rw [es', if_pos (n_nonneg (by omega)), chk_n hj (by omega), chk_n hf (by omega), clamp_n (by omega), rd4, a4', eg]
        rw [jn_to (x := mmax 0 (nI g - 25)) (fun kk => by
          rw [bn1]
          by_cases y : nI g ≤ 25
          · rw [if_pos y, if_pos y]
          · rw [if_neg y, if_neg y]), t4, bnd_n, eg]
        dsimp only
        rw [uF_a, rd4, wr4, upd_a, if_pos rfl, chkZ_b]
        rw [eg] at t6
        refine ⟨_, _, _, _, _, _, _, _, _, S2, rfl, m2, r, κ2, κs, t5, ⟨?_, fun j hj => ?_, ?_⟩, ⟨fun j hj => ?_, ?_, ?_, hM.2.2.2.1, hM.2.2.2.2.1, ?_⟩, ?_, ⟨e1, ?_, ?_, ?_⟩, fun j hj => ?_⟩
        · rw [t7 69 (by decide) (by decide) (by decide), t7 70 (by decide) (by decide) (by decide)]; exact hX.1
        · rw [t6, t7 19 (by decide) (by decide) (by decide), t7 17 (by decide) (by decide) (by decide), t7 15 (by decide) (by decide) (by decide), t7 20 (by decide) (by decide) (by decide)]
          obtain ⟨x1, x2, x3, x4, x5⟩ := hX.2.1 j hj
          refine ⟨x1, x2, ?_, x4, x5⟩
          by_cases y : j = f
          · rw [y, upd_a]; exact ⟨g', hg', bn2⟩
          · rw [upd_b y]; exact x3
        · rw [t7 24 (by decide) (by decide) (by decide), t7 25 (by decide) (by decide) (by decide)]; exact hX.2.2
        · obtain ⟨p2, p3, p4, p5, p6, p7, p8⟩ := hM.1 j hj
          show _ = S2 14 j ∧ _ = S2 15 j ∧ _ = S2 16 j ∧ _ = S2 17 j ∧ _ = S2 19 j ∧ _ = S2 20 j ∧ _ = S2 21 j
          rw [t6, t7 14 (by decide) (by decide) (by decide), t7 15 (by decide) (by decide) (by decide), t7 17 (by decide) (by decide) (by decide), t7 19 (by decide) (by decide) (by decide), t7 20 (by decide) (by decide) (by decide), t7 21 (by decide) (by decide) (by decide)]
          by_cases y : j = f
          · rw [y] at p2 p3 p5 p6 p7 p8 ⊢
            rw [uF_a]
            exact ⟨(upd_b (by decide)).trans p2, (upd_b (by decide)).trans p3, by rw [upd_a, upd_a], (upd_b (by decide)).trans p5, (upd_b (by decide)).trans p6, (upd_b (by decide)).trans p7, (upd_b (by decide)).trans p8⟩
          · rw [uF_b y, upd_b y]
            exact ⟨p2, p3, p4, p5, p6, p7, p8⟩
        · show ∀ c, c < k → _ = S2 24 c ∧ _ = S2 25 c
          rw [t7 24 (by decide) (by decide) (by decide), t7 25 (by decide) (by decide) (by decide)]; exact hM.2.1
        · show QOK nT _ _ _ _ κs (S2 69) (S2 70)
          rw [t7 69 (by decide) (by decide) (by decide), t7 70 (by decide) (by decide) (by decide)]; exact hM.2.2.1
        · show (∀ j, j < n → S2 19 j = 0 ∨ S2 19 j = 1 ∨ S2 19 j = 2) ∧ ∀ c, c < k → S2 25 c = 0 ∨ S2 25 c = 1 ∨ S2 25 c = 2
          rw [t7 19 (by decide) (by decide) (by decide), t7 25 (by decide) (by decide) (by decide)]; exact hM.2.2.2.2.2
        · rw [t7 62 (by decide) (by decide) (by decide)]; exact hw
        · rw [t7 6 (by decide) (by decide) (by decide)]; exact e2
        · rw [t7 7 (by decide) (by decide) (by decide)]; exact e3
        · rw [t7 10 (by decide) (by decide) (by decide)]; exact e4
        · rw [t7 12 (by decide) (by decide) (by decide), t7 13 (by decide) (by decide) (by decide)]
          by_cases y : j = f
          · rw [y, uF_a, upd_b (by decide), upd_b (by decide)]; exact hCo f hf
          · rw [uF_b y]; exact hCo j hj
  · rw [if_neg (by decide), if_neg (by decide), if_neg (by decide), if_neg (by decide), if_neg (by decide), if_pos (by decide)]
    obtain ⟨v1, hv1, ev1⟩ := bl_n (shr5 x 1) (N := 5) (by omega) (by omega)
    obtain ⟨v2, hv2, ev2⟩ := bl_n (shr5 x 4) (N := 5) (by omega) (by omega)
    have ev1' : bl (shr5 x 1) 5 = nI v1 := ev1
    have ev2' : bl (shr5 x 4) 5 = nI v2 := ev2
    obtain ⟨n1, n2⟩ := flow_n v1 hv1
    obtain ⟨n3, n4⟩ := flow_n v2 hv2
    obtain ⟨S2, m2, κ2, t4, t5, t6, t8, t7⟩ := lq_setWind hB n1 n2 n3 n4
    have nk : ∀ j, j ≠ 6 → j ≠ 7 → j < 60 ∨ 64 < j ∨ j = 61 ∨ j = 62 → S2 j = S j := fun j i1 i2 i3 => t7 j i1 i2 (by omega) (by omega) (by omega)
    rw [ev1', ev2', t4, bnd_n]
    dsimp only
    rw [if_pos (by rw [e2, e3]), chkZ_b]
    refine ⟨_, _, _, _, _, _, _, _, _, S2, rfl, m2, r, κ2, κs, t5, ⟨?_, ?_, ?_⟩, ⟨?_, ?_, ?_, hM.2.2.2.1, hM.2.2.2.2.1, ?_⟩, ?_, ⟨e1, t6.symm, t8.symm, ?_⟩, ?_⟩
    · rw [nk 69 (by decide) (by decide) (by decide), nk 70 (by decide) (by decide) (by decide)]; exact hX.1
    · rw [nk 19 (by decide) (by decide) (by decide), nk 17 (by decide) (by decide) (by decide), nk 15 (by decide) (by decide) (by decide), nk 16 (by decide) (by decide) (by decide), nk 20 (by decide) (by decide) (by decide)]; exact hX.2.1
    · rw [nk 24 (by decide) (by decide) (by decide), nk 25 (by decide) (by decide) (by decide)]; exact hX.2.2
    · show ∀ j, j < n → _ = S2 14 j ∧ _ = S2 15 j ∧ _ = S2 16 j ∧ _ = S2 17 j ∧ _ = S2 19 j ∧ _ = S2 20 j ∧ _ = S2 21 j
      rw [nk 14 (by decide) (by decide) (by decide), nk 15 (by decide) (by decide) (by decide), nk 16 (by decide) (by decide) (by decide), nk 17 (by decide) (by decide) (by decide), nk 19 (by decide) (by decide) (by decide), nk 20 (by decide) (by decide) (by decide), nk 21 (by decide) (by decide) (by decide)]; exact hM.1
    · show ∀ c, c < k → _ = S2 24 c ∧ _ = S2 25 c
      rw [nk 24 (by decide) (by decide) (by decide), nk 25 (by decide) (by decide) (by decide)]; exact hM.2.1
    · show QOK nT _ _ _ _ κs (S2 69) (S2 70)
      rw [nk 69 (by decide) (by decide) (by decide), nk 70 (by decide) (by decide) (by decide)]; exact hM.2.2.1
    · show (∀ j, j < n → S2 19 j = 0 ∨ S2 19 j = 1 ∨ S2 19 j = 2) ∧ ∀ c, c < k → S2 25 c = 0 ∨ S2 25 c = 1 ∨ S2 25 c = 2
      rw [nk 19 (by decide) (by decide) (by decide), nk 25 (by decide) (by decide) (by decide)]; exact hM.2.2.2.2.2
    · rw [nk 62 (by decide) (by decide) (by decide)]; exact hw
    · rw [nk 10 (by decide) (by decide) (by decide)]; exact e4
    · unfold CO
      rw [nk 12 (by decide) (by decide) (by decide), nk 13 (by decide) (by decide) (by decide)]; exact hCo
  · rw [if_neg (by decide), if_neg (by decide), if_neg (by decide), if_neg (by decide), if_neg (by decide), if_neg (by decide)]
    exact keep
end Act
