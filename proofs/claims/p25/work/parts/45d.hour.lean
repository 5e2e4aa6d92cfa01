/-! the law's hour, whole -/
theorem ns_ext {g : Nat → Nat} {n : Nat} : ∀ {N : Nat}, n ≤ N → (∀ j, n ≤ j → j < N → g j = 0) → ns g N = ns g n
  | 0, h, _ => by rw [Nat.le_zero.mp h]
  | N + 1, h, e => by
    by_cases q : n = N + 1
    · rw [q]
    · rw [ns, e N (by omega) (Nat.lt_succ_self N), Nat.add_zero]
      exact ns_ext (by omega) (fun j h1 h2 => e j h1 (by omega))
theorem ns_up {g : Nat → Nat} {n : Nat} : ∀ {N : Nat}, n ≤ N → ns g n ≤ ns g N
  | 0, h => by rw [Nat.le_zero.mp h]; exact Nat.le_refl _
  | N + 1, h => by
    by_cases q : n = N + 1
    · rw [q]; exact Nat.le_refl _
    · rw [ns]
      exact Nat.le_trans (ns_up (by omega)) (Nat.le_add_right _ _)
section HourW
variable {S Sp S1 A' : Nat → Nat → Int32} {n k w m r m2 : Nat} {κ κ2 : Nat → Nat} {B : Int32}
theorem kq_tot {st : Nat → Int32} (hn : n ≤ 24) (hT : TOK n st (Sp 69)) : ns (fun a => ns (kq Sp a) n) n = cntT (Sp 69) := by
  unfold cntT
  have z : ∀ x y, y < 24 → x < 24 → ¬ (x < y ∧ y < n) → ¬ 0 < Sp 69 (24 * x + y) := fun x y hy hx no h0 => by
    obtain ⟨c, d, e, hcd, hd, -⟩ := hT (24 * x + y) (by omega) (i_pos_ne h0)
    omega
  rw [show (576 : Nat) = 24 * 24 from rfl, ns_split 24, ns_ext (n := n) (N := 24) hn (fun x h1 h2 => ns_zero fun y hy => by rw [decide_eq_false (z x y hy h2 (by omega)), if_neg (by decide)])]
  refine ns_congr fun x hx => ?_
  rw [ns_ext (n := n) (N := 24) hn (fun y h1 h2 => by rw [decide_eq_false (z x y h2 (by omega) (by omega)), if_neg (by decide)])]
  refine ns_congr fun y hy => ?_
  unfold kq
  by_cases h0 : 0 < Sp 69 (24 * x + y)
  · have hxy : x < y := Classical.byContradiction fun no => z x y (by omega) (by omega) (fun q => no q.1) h0
    rw [if_pos ⟨hxy, h0⟩, decide_eq_true h0, if_pos rfl]
  · rw [if_neg (fun q => h0 q.2), decide_eq_false h0, if_neg (by decide)]
theorem gq_le (hn : n ≤ 24) (hF : HF n k w S Sp B) : ns (fun a => ns (gq S Sp a) n) n ≤ ns (fun q => if brk (S 62) w (gA1 n S) q = true then 1 else 0) 576 := by
  rw [show (576 : Nat) = 24 * 24 from rfl, ns_split 24]
  refine Nat.le_trans (ns_le fun x hx => ?_) (ns_up hn)
  refine Nat.le_trans (ns_le fun y hy => ?_) (ns_up hn)
  unfold gq
  by_cases q : x < y ∧ 0 < S 69 (24 * x + y) ∧ ¬ 0 < Sp 69 (24 * x + y) ∧ (Sp 19 x = 0 ∨ Sp 19 y = 0)
  · rw [if_pos q, if_pos (hF.2.2.2.2.1 x y q.1 hy q.2.1 q.2.2.1 q.2.2.2).1]
    exact Nat.le_refl _
  · rw [if_neg q]
    exact Nat.zero_le _
theorem cntT_ext {T T' : Nat → Int32} (e : ∀ q, q < 576 → T' q = T q) : cntT T' = cntT T := ns_congr fun q hq => by rw [e q hq]
/-- all that the law asks and tests of an hour, from behind what is done ahead of it -/
theorem y_hour {τ : Type} {t : Nat} {ho br : Int32} {nT nR : Nat} {sg κs : Nat → Nat} {wF bF tF pF : Nat → Nat → Int32} (hB : RelB S n k w m r κ) (hn12 : n ≤ 12) (hk12 : k ≤ 12) (hX : XI n k S) (hM : SM n k nT S nR sg κs bF tF pF) (hw : SW w (S 62) wF) (ht : S 10 0 = nI t)
    (K : (Nat → Nat → Int32) → Int32 × Int32 × Int32 × Nat × (Nat → Nat) × (Nat → Nat → Int32) × (Nat → Nat → Int32) × (Nat → Nat → Int32) → Option τ) :
    ∃ Sp X A'' nT' sg' κs' bF' tF' pF' bN m2 κ2, jS_pass ho br (S 6 0) (S 7 0) w n nT k nR sg wF bF tF pF = some (bN, ho + 1, br + bN, nT', sg', bF', tF', pF') ∧ RelB Sp n k w m2 r κ2 ∧ XI n k Sp ∧ SM n k nT' Sp nR sg' κs' bF' tF' pF' ∧ Sp 62 = S 62 ∧ Sp 6 = S 6 ∧ Sp 7 = S 7 ∧ Sp 12 = S 12 ∧ Sp 13 = S 13 ∧ Sp 10 0 = nI (t + 1) ∧ EK Sp X ∧ A'' = (bN, ho + 1, br + bN, nT', sg', bF', tF', pF') ∧
      chkP (n ≤ 12) (chkP (n ≤ 12) (bnd (jL_law_L93 n 0 S (fun _ _ => 0)) (fun r_17 => chkP (n ≤ 12) (chkP (n ≤ 12) (chkP (n ≤ 12) (chkP (n ≤ 12) (chkP (n ≤ 12) (chkP (n ≤ 12) (chkP (n ≤ 12) (bnd (jL_law_L164 n t r_17.2 n 0 r_17.1 (fun _ _ => 0) (fun _ _ => 0) (fun _ _ => 0)) (fun r_107 => bnd (op_foresee r_107.1 1 0) (fun r_108 => bnd (op_foresee r_108.2 1 1) (fun r_113 => bnd (op_foresee r_113.2 1 3) (fun r_118 => chkP (k ≤ 12) (chkP (k ≤ 12) (bnd (jL_law_L498 k 0 r_118.2 (fun _ => 0)) (fun r_130 => bnd (op_count r_130.1 10) (fun r_131 => bnd (op_pass r_131.2 1) (fun r_136 => bnd (jS_pass ho br (S 6 0) (S 7 0) w n nT k nR sg wF bF tF pF) (fun r_141 => bnd (op_count r_136.2 10) (fun r_143 => (if r_143.1 = r_131.1 + r_136.1 then bnd (op_count r_143.2 2) (fun r_148 => (if r_148.1 = r_108.1 then bnd (op_count r_148.2 6) (fun r_153 => (if r_153.1 = r_113.1 then bnd (op_count r_153.2 7) (fun r_158 => (if r_158.1 = r_118.1 then bnd (op_count r_158.2 0) (fun r_163 => (if r_163.1 = (nI t) + 1 then chkP (n ≤ 12) (bnd (jL_law_L615 n r_17.2 r_107.2.1 r_107.2.2.1 r_107.2.2.2 n 0 r_163.2 0 0 0) (fun r_337 => (if r_337.2.1 = r_108.1 then (if r_337.2.2.2 = r_118.1 then (if r_337.2.2.1 ≤ r_136.1 then chkP (k ≤ 12) (bnd (jL_law_L1253 r_130.2 k 0 r_337.1) (fun r_358 => chkP (n ≤ 12) (bnd (jL_law_L1349 n 0 r_358 0) (fun r_364 => bnd (op_count r_364.1 8) (fun r_365 => (if r_365.1 = r_364.2 then bnd (op_count r_365.2 4) (fun r_370 => (if r_370.1 = nI k then bnd (op_count r_370.2 7) (fun r_375 => (if r_337.2.1 - r_364.2 ≤ r_375.1 then K r_375.2 r_141 else none)) else none)) else none)))))) else none) else none) else none))) else none)) else none)) else none)) else none)) else none)))))))))))))))))))))) = K X A'' := by
  have hW : WA n k S := hB.2.2.2.1
  have hn := hW.1
  have hS := hB.2.2.2.2.2.1
  have hP : PN n S (S 22) := hB.2.2.2.2.2.2.1
  obtain ⟨⟨R1, wa⟩, f1, e1, wv⟩ := y_wasA hB (EK_r (S := S)) (fun _ _ => 0)
  obtain ⟨⟨R2, x1, x2, x3⟩, f2, e2, xv⟩ := y_rows (t := t) hB hn12 hX e1 wa (fun _ _ => 0) (fun _ _ => 0) (fun _ _ => 0) wv
  dsimp only at e1 wv e2 xv
  obtain ⟨A1, B1, r1, c1, ⟨R3, f3, e3⟩, -, -⟩ := lq_foresee hB e2
  obtain ⟨A2, B2, r2, c2, -, ⟨R4, f4, e4⟩, -⟩ := lq_foresee hB e3
  obtain ⟨A3, B3, r3, c3, -, -, ⟨R5, f5, e5⟩⟩ := lq_foresee hB e4
  obtain ⟨⟨R6, cs⟩, f6, e6, cv⟩ := y_crew hB e5 (fun _ => 0)
  dsimp only at e6 cv
  obtain ⟨R7, f7, e7⟩ := lq_count10 hB e6
  obtain ⟨A4, B4, Sp, m2, κ2, r4, f8, hB2, hA, hm2, p10, p11, p12, p13, p62, p6, p7⟩ := lq_pass hB e7
  rw [(HR_one hW r1 r4).1] at f3
  rw [(HR_one hW r2 r4).1] at f4
  rw [(HR_one hW r3 r4).1] at f5 c3
  have hF := HF_of hB r4 hA
  obtain ⟨p2, hp2, eA, eB⟩ := id r4
  have hX2 : XI n k Sp := XI_ae hA (by rw [eA]; exact XI_hour hW hS.1 hP hp2 hX)
  obtain ⟨nT', sg', κs', bF', tF', pF', f9, hM', -⟩ := s_pass (ho := ho) (br := br) (wx := S 6 0) (wy := S 7 0) hM hW hS.1 hw hP hp2
  have hM2 : SM n k nT' Sp nR sg' κs' bF' tF' pF' := SM_ae hA (by rw [eA]; exact hM')
  have hW2 : WA n k Sp := hB2.2.2.2.1
  obtain ⟨Y1, g1, d1⟩ := lq_count10 hB2 (EK_r (S := Sp))
  obtain ⟨Y2, g2, d2⟩ := lq_count2 hB2 d1
  obtain ⟨Y3, g3, d3⟩ := lq_count6 hB2 d2
  obtain ⟨Y4, g4, d4⟩ := lq_count7 hB2 d3
  obtain ⟨Y5, g5, d5⟩ := lq_count0 hB2 d4
  obtain ⟨⟨Y6, v17, v18, v19⟩, g6, d6, u1, u2, u3⟩ := y_each hB hn12 hX hF hX2 hB2 d5 (wa := wa) (x1 := x1) (x2 := x2) (x3 := x3) wv xv
  dsimp only at d6 u1 u2 u3
  obtain ⟨Y7, g7, d7⟩ := y_people hX hF hX2 hB2 d6 (g := cs) cv
  obtain ⟨⟨Y8, nm⟩, g8, d8, u4⟩ := y_names hB2 d7
  dsimp only at d8 u4
  obtain ⟨Y9, g9, d9⟩ := lq_count8 hB2 d8
  obtain ⟨Z1, h1, b1⟩ := lq_count4 hB2 d9
  obtain ⟨Z2, h2, b2⟩ := lq_count7 hB2 b1
  have c19 : fs (fun j => if Sp 19 j = 0 then 1 else 0) n = fs (fun j => if A4 19 j = 0 then 1 else 0) n := fs_congr fun j hj => by
    rw [show Sp 19 j = A4 19 j from (hA.1 j hj).2.2.2.2.2.1]
  have c25 : fs (fun c => if Sp 25 c = 2 then 1 else 0) k = fs (fun c => if A4 25 c = 2 then 1 else 0) k := fs_congr fun c hc => by
    rw [show Sp 25 c = A4 25 c from (hA.2.1 c hc).2]
  have c69 : cntT (Sp 69) = cntT (A4 69) := cntT_ext hA.2.2.1
  have ckq : v19 = nI (cntT (A4 69)) := by rw [u3, kq_tot hn hW2.2.2.2.2.1, c69]
  have cgq : v18 ≤ B4 := by
    rw [u2, hF.2.2.2.2.2.2.2, fs_ns]
    have q1 := gq_le hn hF
    have q2 := ns_le1 (P := fun q => brk (S 62) w (gA1 n S) q = true) (n := 576)
    exact (nI_leI (by omega) (by omega)).mpr q1
  have cen : v17 - nm ≤ nI m2 := by
    rw [u1, u4, fs_ns, fs_ns]
    have q1 : ns (fun j => if Sp 19 j = 0 then 1 else 0) n ≤ ns (fun j => if Sp 22 j = nI j then 1 else 0) n + m2 := fo_enough hn hW2.2.2.2.2.1 hB2.2.2.2.2.2.2.1 hB2.2.2.2.2.2.2.2.1.2.1
    have q2 := ns_le1 (P := fun j => Sp 19 j = 0) (n := n)
    have q3 : ns (fun j => if Sp 22 j = nI j then 1 else 0) n ≤ ns (fun j => if Sp 19 j = 0 then 1 else 0) n := ns_le fun j hj => by
      by_cases z : Sp 22 j = nI j
      · rw [if_pos z, if_pos (POK_self hn hB2.2.2.2.2.2.2.1 hj z (by omega)).2.1]
        exact Nat.le_refl _
      · rw [if_neg z]
        exact Nat.zero_le _
    have q4 : m2 ≤ 576 := by rw [hm2]; omega
    rw [pk_sub q3]
    refine (nI_leI (by omega) (by omega)).mpr ?_
    omega
  refine ⟨Sp, Z2, _, nT', sg', κs', bF', tF', pF', _, m2, κ2, f9, hB2, hX2, hM2, p62, p6, p7, p12, p13, by rw [p10, ht, nI_1], b2, rfl, ?_⟩
  rw [chkP_n hn12, chkP_n hn12, f1, bnd_n]
  dsimp only
  rw [chkP_n hn12, chkP_n hn12, chkP_n hn12, chkP_n hn12, chkP_n hn12, chkP_n hn12, chkP_n hn12, f2, bnd_n]
  dsimp only
  rw [f3, bnd_n]
  dsimp only
  rw [f4, bnd_n]
  try dsimp only
  rw [f5, bnd_n]
  try dsimp only
  rw [chkP_n hk12, chkP_n hk12, f6, bnd_n]
  try dsimp only
  rw [f7, bnd_n]
  try dsimp only
  rw [f8, bnd_n]
  try dsimp only
  rw [f9, bnd_n, g1, bnd_n]
  try dsimp only
  rw [if_pos p11, g2, bnd_n]
  try dsimp only
  rw [if_pos c19, g3, bnd_n]
  try dsimp only
  rw [if_pos c25, g4, bnd_n]
  try dsimp only
  rw [hm2, if_pos rfl, g5, bnd_n]
  try dsimp only
  rw [if_pos (by rw [p10, ht]), chkP_n hn12, g6, bnd_n]
  try dsimp only
  rw [if_pos (u1.trans c19), if_pos ckq, if_pos cgq, chkP_n hk12, g7, bnd_n]
  try dsimp only
  rw [chkP_n hn12, g8, bnd_n]
  try dsimp only
  rw [g9, bnd_n]
  try dsimp only
  rw [if_pos u4.symm, h1, bnd_n]
  try dsimp only
  rw [if_pos rfl, h2, bnd_n]
  try dsimp only
  rw [if_pos cen]
end HourW
