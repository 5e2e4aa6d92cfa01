/-! the law's hour: barrel by barrel -/
section Each
variable {S Sp S1 : Nat → Nat → Int32} {n k w m r m2 : Nat} {κ κ2 : Nat → Nat} {B : Int32}
theorem deg_0 {T : Nat → Int32} {st : Nat → Int32} (hn : n ≤ 24) (hT : TOK n st T) {j : Nat} (hj : j < n) (h0 : st j ≠ 0) : deg n T j = 0 := by
  unfold deg
  refine ns_zero fun y hy => if_neg fun z => ?_
  have t := tb_iff.mp z
  obtain ⟨c, d, k1, k2, k3, k4, k5, -⟩ := hT _ (pr_lt (a := j) (b := y) (by omega) (by omega)) (i_pos_ne t.2.2.2)
  rcases pr_cases k1 k2 (by omega) (by omega) (by omega) with ⟨ex, -⟩ | ⟨ex, -⟩
  · exact h0 (by rw [ex]; exact k4)
  · exact h0 (by rw [ex]; exact k5)
/-- who was lost or saved -/
theorem z_708 {τ : Type} (hX : XI n k S) (hF : HF n k w S Sp B) (hB2 : RelB Sp n k w m2 r κ2) (e : EK Sp S1) {j : Nat} (hj : j < n) {wa : Nat → Int32} (h6 : wa 6 = S 19 j) (h5 : wa 5 = S 17 j) (h8 : wa 8 = S 20 j) : ∃ X, EK Sp X ∧ ∀ kk : (Nat → Nat → Int32) → Option τ, (if rd wa 6 ≤ 0 then kk S1 else (if Sp 19 j = rd wa 6 then bnd (op_barrel S1 (nI j) 5) (fun r_175 => (if r_175.1 = rd wa 5 then bnd (op_barrel r_175.2 (nI j) 8) (fun r_181 => (if r_181.1 = rd wa 8 then kk r_181.2 else none)) else none)) else none)) = kk X := by
  rw [rd6, rd5, rd8, h6, h5, h8]
  by_cases z : S 19 j ≤ 0
  · exact ⟨S1, e, fun kk => if_pos z⟩
  · obtain ⟨y1, y2, y3⟩ := hF.1 j hj (fun y => z (by rw [y]; exact Int32.le_refl _))
    obtain ⟨S2, f1, g1⟩ := lb5 hB2 e hj
    obtain ⟨S3, f2, g2⟩ := lb8 hB2 g1 hj
    refine ⟨S3, g2, fun kk => ?_⟩
    rw [if_neg z, if_pos y1, f1, bnd_n]
    dsimp only
    rw [if_pos y2, f2, bnd_n]
    dsimp only
    rw [if_pos y3]
theorem z_724 {τ : Type} (hX2 : XI n k Sp) (hB2 : RelB Sp n k w m2 r κ2) (e : EK Sp S1) {j : Nat} (hj : j < n) : ∃ X, EK Sp X ∧ ∀ kk : (Nat → Nat → Int32) → Option τ, (if Sp 19 j = 1 then bnd (op_barrel S1 (nI j) 5) (fun r_187 => (if r_187.1 = 0 then kk r_187.2 else none)) else kk S1) = kk X := by
  by_cases z : Sp 19 j = 1
  · obtain ⟨S2, f1, g1⟩ := lb5 hB2 e hj
    refine ⟨S2, g1, fun kk => ?_⟩
    rw [if_pos z, f1, bnd_n]
    dsimp only
    rw [if_pos ((hX2.2.1 j hj).2.1 z)]
  · exact ⟨S1, e, fun kk => if_neg z⟩
theorem z_752 {τ : Type} (hB2 : RelB Sp n k w m2 r κ2) (e : EK Sp S1) {j : Nat} (hj : j < n) : ∃ X, EK Sp X ∧ ∀ kk : (Nat → Nat → Int32) → Option τ, (if Sp 19 j ≤ 0 then kk S1 else bnd (op_barrel S1 (nI j) 7) (fun r_192 => (if r_192.1 = (-1) then bnd (op_barrel r_192.2 (nI j) 10) (fun r_197 => (if r_197.1 = 0 then kk r_197.2 else none)) else none))) = kk X := by
  by_cases z : Sp 19 j ≤ 0
  · exact ⟨S1, e, fun kk => if_pos z⟩
  · have hW := hB2.2.2.2.1
    have h0 : Sp 19 j ≠ 0 := fun y => z (by rw [y]; exact Int32.le_refl _)
    obtain ⟨S2, f1, g1⟩ := lb7 hB2 e hj
    obtain ⟨S3, f2, g2⟩ := lb10 hB2 g1 hj
    refine ⟨S3, g2, fun kk => ?_⟩
    rw [if_neg z, f1, bnd_n]
    dsimp only
    rw [if_pos (show Sp 22 j = -1 from hB2.2.2.2.2.2.2.1.2.2 j hj h0), f2, bnd_n]
    dsimp only
    rw [if_pos (show nI (deg n (Sp 69) j) = 0 by rw [deg_0 hW.1 hW.2.2.2.2.1 hj h0]; rfl)]
theorem z_771 {τ : Type} (hX2 : XI n k Sp) (hB2 : RelB Sp n k w m2 r κ2) (e : EK Sp S1) {j : Nat} (hj : j < n) : ∃ X, EK Sp X ∧ ∀ kk : (Nat → Nat → Int32) → Option τ, (if Sp 19 j = 2 then bnd (op_barrel S1 (nI j) 8) (fun r_202 => (if r_202.1 = 29 then kk r_202.2 else none)) else kk S1) = kk X := by
  by_cases z : Sp 19 j = 2
  · obtain ⟨S2, f1, g1⟩ := lb8 hB2 e hj
    refine ⟨S2, g1, fun kk => ?_⟩
    rw [if_pos z, f1, bnd_n]
    dsimp only
    rw [if_pos ((hX2.2.1 j hj).1 z)]
  · exact ⟨S1, e, fun kk => if_neg z⟩
theorem z_791 {τ : Type} (hF : HF n k w S Sp B) (hB2 : RelB Sp n k w m2 r κ2) (e : EK Sp S1) {j : Nat} (hj : j < n) : ∃ X, EK Sp X ∧ ∀ kk : (Nat → Nat → Int32) → Option τ, (if Sp 19 j = 0 then bnd (op_barrel S1 (nI j) 8) (fun r_207 => (if r_207.1 = 29 then none else kk r_207.2)) else kk S1) = kk X := by
  by_cases z : Sp 19 j = 0
  · obtain ⟨S2, f1, g1⟩ := lb8 hB2 e hj
    refine ⟨S2, g1, fun kk => ?_⟩
    rw [if_pos z, f1, bnd_n]
    dsimp only
    rw [if_neg (hF.2.2.1 j hj z)]
  · exact ⟨S1, e, fun kk => if_neg z⟩
theorem z_834 {τ : Type} (hF : HF n k w S Sp B) (hB2 : RelB Sp n k w m2 r κ2) (e : EK Sp S1) {j : Nat} (hj : j < n) {wa : Nat → Int32} (h6 : wa 6 = S 19 j) (h4 : wa 4 = S 16 j) (h3 : wa 3 = S 15 j) : ∃ X, EK Sp X ∧ ∀ kk : (Nat → Nat → Int32) → Option τ, (if rd wa 6 = 0 then bnd (op_barrel S1 (nI j) 4) (fun r_213 => (if r_213.1 = mmin 100 ((rd wa 4) + (rd wa 3)) then kk r_213.2 else none)) else kk S1) = kk X := by
  rw [rd6, rd4, rd3, h6, h4, h3]
  by_cases z : S 19 j = 0
  · obtain ⟨S2, f1, g1⟩ := lb4 hB2 e hj
    refine ⟨S2, g1, fun kk => ?_⟩
    rw [if_pos z, f1, bnd_n]
    dsimp only
    rw [if_pos (hF.2.1 j hj z)]
  · exact ⟨S1, e, fun kk => if_neg z⟩
theorem rd10 {f : Nat → Int32} : rd f 10 = f 10 := rd_n (j := 10) (by decide)
theorem z_1176 {τ : Type} (hF : HF n k w S Sp B) (hB2 : RelB Sp n k w m2 r κ2) (e : EK Sp S1) {j : Nat} (hj : j < n) (hs : Sp 19 j = 0) {wa : Nat → Int32} (h10 : wa 10 = nI (deg n (S 69) j)) : ∃ X, EK Sp X ∧ ∀ kk : (Nat → Nat → Int32) → Option τ, (if LD n Sp (Sp 22) (Sp 22 j) ≤ LF n Sp (Sp 22) (Sp 22 j) then kk S1 else bnd (op_piece S1 (nI j) 0) (fun r_311 => (if r_311.1 = 1 then (if rd wa 10 = 0 then none else kk r_311.2) else kk r_311.2))) = kk X := by
  have hW := hB2.2.2.2.1
  have hn := hW.1
  by_cases z : LD n Sp (Sp 22) (Sp 22 j) ≤ LF n Sp (Sp 22) (Sp 22 j)
  · exact ⟨S1, e, fun kk => if_pos z⟩
  · obtain ⟨S2, f1, g1⟩ := lq_piece0 hB2 e hj hs
    refine ⟨S2, g1, fun kk => ?_⟩
    rw [if_neg z, f1, bnd_n]
    dsimp only
    by_cases y : fs (fun b => if Sp 22 b = Sp 22 j then 1 else 0) n = 1
    · rw [if_pos y, rd10, h10, if_neg]
      intro d0
      have hd : deg n (S 69) j = 0 := by
        have hle : deg n (S 69) j ≤ 24 := by
          unfold deg
          exact ns_le1
        exact (nI_eq (b := 0) (by omega) (by omega)).mp d0
      refine z ?_
      unfold LD LF
      rw [g_one hj y hn, g_one hj y hn]
      exact hF.2.2.2.2.2.1 j hj hd hs
    · rw [if_neg y]
theorem y_each (hB : RelB S n k w m r κ) (hn12 : n ≤ 12) (hX : XI n k S) (hF : HF n k w S Sp B) (hX2 : XI n k Sp) (hB2 : RelB Sp n k w m2 r κ2) (e : EK Sp S1) {wa x1 x2 x3 : Nat → Nat → Int32} (hw : ∀ i, i < n → ∀ what, what < 13 → wa i what = bv n S i what) (hx : ∀ a, a < n → ∀ i, i < n → x1 a i = lv w S a i 1 ∧ x2 a i = lv w S a i 0 ∧ x3 a i = lv w S a i 2) :
    ∃ q, jL_law_L615 n wa x1 x2 x3 n 0 S1 0 0 0 = some q ∧ (EK Sp q.1 ∧ q.2.1 = fs (fun j => if Sp 19 j = 0 then 1 else 0) n ∧ q.2.2.1 = nI (ns (fun a => ns (gq S Sp a) n) n) ∧ q.2.2.2 = nI (ns (fun a => ns (kq Sp a) n) n)) := by
  have hW : WA n k S := hB.2.2.2.1
  have hW2 : WA n k Sp := hB2.2.2.2.1
  have hP2 : PN n Sp (Sp 22) := hB2.2.2.2.2.2.2.1
  have hn := hW.1
  refine itN0 (s0 := (S1, (0 : Int32), (0 : Int32), (0 : Int32))) (fun f j (s : (Nat → Nat → Int32) × Int32 × Int32 × Int32) => jL_law_L615 n wa x1 x2 x3 f j s.1 s.2.1 s.2.2.1 s.2.2.2) n (fun j s => EK Sp s.1 ∧ s.2.1 = fs (fun j => if Sp 19 j = 0 then 1 else 0) j ∧ s.2.2.1 = nI (ns (fun a => ns (gq S Sp a) n) j) ∧ s.2.2.2 = nI (ns (fun a => ns (kq Sp a) n) j)) _ ⟨e, rfl, rfl, rfl⟩ (fun s hs => ⟨s, rfl, hs⟩) (fun f j s hj hs => ?_)
  obtain ⟨Sx, v17, v18, v19⟩ := s
  obtain ⟨h1, h2, h3, h4⟩ := hs
  dsimp only at h1 h2 h3 h4 ⊢
  obtain ⟨X0, f0, e0⟩ := lb6 hB2 h1 hj
  rw [jL_law_L615, f0, bnd_n]
  dsimp only
  obtain ⟨Xa, ea, ga⟩ := z_708 (τ := (Nat → Nat → Int32) × Int32 × Int32 × Int32) hX hF hB2 e0 hj (wa := wa j) (hw j hj 6 (by omega)) (hw j hj 5 (by omega)) (hw j hj 8 (by omega))
  obtain ⟨Xb, eb, gb⟩ := z_724 (τ := (Nat → Nat → Int32) × Int32 × Int32 × Int32) hX2 hB2 ea hj
  obtain ⟨Xc, ec, gc⟩ := z_752 (τ := (Nat → Nat → Int32) × Int32 × Int32 × Int32) hB2 eb hj
  obtain ⟨Xd, ed, gd⟩ := z_771 (τ := (Nat → Nat → Int32) × Int32 × Int32 × Int32) hX2 hB2 ec hj
  obtain ⟨Xe, ee, ge⟩ := z_791 (τ := (Nat → Nat → Int32) × Int32 × Int32 × Int32) hF hB2 ed hj
  obtain ⟨Xf, ef, gf⟩ := z_834 (τ := (Nat → Nat → Int32) × Int32 × Int32 × Int32) hF hB2 ee hj (wa := wa j) (hw j hj 6 (by omega)) (hw j hj 4 (by omega)) (hw j hj 3 (by omega))
  have one : ∃ x : Int32, x = (if Sp 19 j = 0 then 1 else 0) ∧ ∀ kk : Int32 → Option ((Nat → Nat → Int32) × Int32 × Int32 × Int32), (if Sp 19 j = 0 then kk 1 else kk 0) = kk x := by
    by_cases z : Sp 19 j = 0
    · exact ⟨1, (if_pos z).symm, fun kk => if_pos z⟩
    · exact ⟨0, (if_neg z).symm, fun kk => if_neg z⟩
  obtain ⟨x, hx0, gx⟩ := one
  refine ex_jn gx ?_
  refine ex_jn ga ?_
  refine ex_jn gb ?_
  refine ex_jn gc ?_
  refine ex_jn gd ?_
  refine ex_jn ge ?_
  refine ex_jn gf ?_
  obtain ⟨X7, f7, e7⟩ := lb11 hB2 ef hj
  obtain ⟨X8, f8, e8⟩ := lb2 hB2 e7 hj
  obtain ⟨X9, f9, e9⟩ := lb4 hB2 e8 hj
  rw [f7, bnd_n]
  dsimp only
  rw [f8, bnd_n]
  dsimp only
  rw [f9, bnd_n]
  dsimp only
  rw [if_pos rfl, chkP_n hn12, h3, h4]
  obtain ⟨⟨Xi, vi, wi⟩, fi, ei, li, mi⟩ := y_inner hB hF hB2 e9 hj (x1 := x1) (x2 := x2) (x3 := x3) (hx j hj) (g0 := ns (fun a => ns (gq S Sp a) n) j) (k0 := ns (fun a => ns (kq Sp a) n) j)
  dsimp only at ei li mi
  rw [fi, bnd_n]
  dsimp only
  have done : ∀ X, EK Sp X → ∃ s' : (Nat → Nat → Int32) × Int32 × Int32 × Int32, (EK Sp s'.1 ∧ s'.2.1 = fs (fun j => if Sp 19 j = 0 then 1 else 0) (j + 1) ∧ s'.2.2.1 = nI (ns (fun a => ns (gq S Sp a) n) (j + 1)) ∧ s'.2.2.2 = nI (ns (fun a => ns (kq Sp a) n) (j + 1))) ∧ jL_law_L615 n wa x1 x2 x3 f (j + 1) X (v17 + x) vi wi = jL_law_L615 n wa x1 x2 x3 f (j + 1) s'.1 s'.2.1 s'.2.2.1 s'.2.2.2 := fun X hXX => by
    refine ⟨(X, v17 + x, vi, wi), ⟨hXX, ?_, ?_, ?_⟩, rfl⟩
    · dsimp only
      rw [fs, h2, hx0]
    · dsimp only
      rw [li, ns]
    · dsimp only
      rw [mi, ns]
  by_cases hs : Sp 19 j = 0
  · rw [if_pos hs]
    obtain ⟨Y1, p1, q1⟩ := lq_piece2 hB2 ei hj hs
    rw [p1, bnd_n]
    dsimp only
    obtain ⟨Y2, p2, q2⟩ := lq_piece1 hB2 q1 hj hs
    rw [p2, bnd_n]
    dsimp only
    obtain ⟨Y3, q3, g3⟩ := z_1176 (τ := (Nat → Nat → Int32) × Int32 × Int32 × Int32) hF hB2 q2 hj hs (wa := wa j) (hw j hj 10 (by omega))
    refine ex_jn g3 ?_
    obtain ⟨Y4, p4, q4⟩ := lq_piece0 hB2 q3 hj hs
    obtain ⟨G, Y5, p5, q5, hG⟩ := lq_piece4 hB2 q4 hj hs
    obtain ⟨Y6, p6, q6⟩ := lq_piece0 hB2 q5 hj hs
    obtain ⟨Y7, p7, q7⟩ := lb7 hB2 q6 hj
    obtain ⟨bb, ss, eb1, es1, hbs, hss⟩ := fo_bridges hn hW2.2.2.2.2.1 hW2.2.2.2.2.2.2 hP2 hj hs hG
    rw [p4, bnd_n]
    dsimp only
    rw [es1, if_neg (show ¬ nI ss < 1 from fun z => by have := (nI_ltI (b := 1) (by omega) (by omega)).mp z; omega), p5, bnd_n]
    dsimp only
    rw [p6, bnd_n]
    dsimp only
    rw [es1, eb1, l1, pk_sub (by omega), if_neg (show ¬ nI (ss - 1) < nI bb from fun z => by have := (nI_ltI (by omega) (by omega)).mp z; omega), p7, bnd_n]
    dsimp only
    obtain ⟨i, i1, i2, -⟩ := hP2.1 j hj hs
    rw [i2, if_pos ((nI_leI (by omega) (by omega)).mpr i1)]
    exact done Y7 q7
  · rw [if_neg hs]
    exact done Xi ei
theorem y_people (hX : XI n k S) (hF : HF n k w S Sp B) (hX2 : XI n k Sp) (hB2 : RelB Sp n k w m2 r κ2) (e : EK Sp S1) {g : Nat → Int32} (hg : ∀ c, c < k → g c = S 25 c) : ∃ X, jL_law_L1253 g k 0 S1 = some X ∧ EK Sp X := by
  have hW2 : WA n k Sp := hB2.2.2.2.1
  have hn := hW2.1
  have hk := hW2.2.1
  have hK : ∀ c, c < k → Sp 25 c ≠ 0 → Sp 24 c = -1 := hB2.2.2.2.2.2.2.2.2.2.2
  refine itN0 (s0 := S1) (fun f j s => jL_law_L1253 g f j s) k (fun j s => EK Sp s) _ e (fun s hs => ⟨s, rfl, hs⟩) (fun f c s hc hs => ?_)
  obtain ⟨X1, f1, e1⟩ := lq_seat hB2 hs hc
  obtain ⟨X2, f2, e2⟩ := lq_kstate hB2 e1 hc
  rw [jL_law_L1253, f1, bnd_n]
  dsimp only
  rw [f2, bnd_n]
  dsimp only
  have st1 : ∀ kk : Unit → Option (Nat → Nat → Int32), (if rd g (nI c) ≤ 0 then kk () else (if Sp 25 c = rd g (nI c) then kk () else none)) = kk () := fun kk => by
    rw [rd_n (by omega), hg c hc]
    by_cases z : S 25 c ≤ 0
    · exact if_pos z
    · rw [if_neg z, if_pos (hF.2.2.2.2.2.2.1 c hc (fun y => z (by rw [y]; exact Int32.le_refl _)))]
  refine ex_jn st1 ?_
  try dsimp only
  rcases hW2.2.2.2.1 c hc with es | ⟨b, hb, es, h0⟩
  · have es' : Sp 24 c = -1 := es
    have hst := (hX2.2.2 c hc).1 es'
    rw [es']
    refine ⟨X2, e2, ?_⟩
    have hst2 : ¬ Sp 25 c ≤ 0 := by rcases hst with z | z <;> rw [z] <;> decide
    rw [jn_n, if_neg (by decide)]
    dsimp only
    rw [if_neg hst2, if_pos rfl, if_pos (by decide)]
  · have es' : Sp 24 c = nI b := es
    have h25 : Sp 25 c = 0 := Classical.byContradiction fun no => by
      have := hK c hc no
      rw [es'] at this
      exact n_m1 (by omega) this
    obtain ⟨X3, f3, e3⟩ := lb6 hB2 e2 hb
    rw [es', h25]
    refine ⟨X3, e3, ?_⟩
    rw [jn_n, if_pos (n_nonneg (by omega))]
    dsimp only
    rw [if_pos (Int32.le_refl _), if_pos rfl, if_neg (n_neg (by omega)), f3, bnd_n]
    dsimp only
    rw [if_pos h0]
theorem y_names (hB2 : RelB Sp n k w m2 r κ2) (e : EK Sp S1) : ∃ q, jL_law_L1349 n 0 S1 0 = some q ∧ (EK Sp q.1 ∧ q.2 = fs (fun j => if Sp 22 j = nI j then 1 else 0) n) := by
  refine itN0 (s0 := (S1, (0 : Int32))) (fun f j (s : (Nat → Nat → Int32) × Int32) => jL_law_L1349 f j s.1 s.2) n (fun j s => EK Sp s.1 ∧ s.2 = fs (fun j => if Sp 22 j = nI j then 1 else 0) j) _ ⟨e, rfl⟩ (fun s hs => ⟨s, rfl, hs⟩) (fun f j s hj hs => ?_)
  obtain ⟨Sx, v⟩ := s
  obtain ⟨h1, h2⟩ := hs
  dsimp only at h1 h2 ⊢
  obtain ⟨X1, f1, e1⟩ := lb7 hB2 h1 hj
  rw [jL_law_L1349, f1, bnd_n]
  dsimp only
  by_cases z : Sp 22 j = nI j
  · rw [if_pos z]
    exact ⟨(X1, v + 1), ⟨e1, by dsimp only; rw [fs, h2, if_pos z]⟩, rfl⟩
  · rw [if_neg z]
    exact ⟨(X1, v + 0), ⟨e1, by dsimp only; rw [fs, h2, if_neg z]⟩, rfl⟩
end Each
