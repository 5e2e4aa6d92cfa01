/-! what an hour does -/
abbrev gE1 (n : Nat) (S : Nat → Nat → Int32) : Nat → Bool := EO n (stepW n S) (S 22)
abbrev gA1 (n : Nat) (S : Nat → Nat → Int32) : Nat → Nat → Int32 := hA1 n S (S 22)
abbrev gA2 (n w : Nat) (S : Nat → Nat → Int32) : Nat → Nat → Int32 := hA2 n w (S 62) S (S 22)
abbrev gA3 (n w : Nat) (S : Nat → Nat → Int32) (p2 : Nat → Int32) : Nat → Nat → Int32 := hA3 n w (S 62) (S 6 0) (S 7 0) S (S 22) p2
abbrev gE2 (n w : Nat) (S : Nat → Nat → Int32) (p2 : Nat → Int32) : Nat → Bool := ES n (gA3 n w S p2)
abbrev gA4 (n w : Nat) (S : Nat → Nat → Int32) (p2 : Nat → Int32) : Nat → Nat → Int32 := hA4 n w (S 62) (S 6 0) (S 7 0) S (S 22) p2
/-- what holds besides, hour for hour -/
def XI (n k : Nat) (S : Nat → Nat → Int32) : Prop :=
  (∀ q, q < 576 → 0 < S 69 q → ∃ d, d ≤ 50 ∧ S 69 q - S 70 q = nI d)
  ∧ (∀ j, j < n → (S 19 j = 2 → S 20 j = 29) ∧ (S 19 j = 1 → S 17 j = 0) ∧ (∃ g, g ≤ 100 ∧ S 16 j = nI g) ∧ (∃ l, l ≤ 9 ∧ S 15 j = nI l) ∧ (S 19 j = 0 ∨ S 19 j = 1 ∨ S 19 j = 2))
  ∧ ∀ c, c < k → (S 24 c = -1 → S 25 c = 1 ∨ S 25 c = 2) ∧ (S 25 c = 0 ∨ S 25 c = 1 ∨ S 25 c = 2)
theorem XI_ae {n k : Nat} {A A' : Nat → Nat → Int32} (e : AE n k A A') (h : XI n k A) : XI n k A' := by
  obtain ⟨h1, h2, h3⟩ := h
  refine ⟨fun q hq h0 => ?_, fun j hj => ?_, fun c hc => ?_⟩
  · have e1 : A' 69 q = A 69 q := e.2.2.1 q hq
    rw [e1] at h0 ⊢
    have e2 : A' 70 q = A 70 q := e.2.2.2 q hq h0
    rw [e2]
    exact h1 q hq h0
  · obtain ⟨-, a2, a3, a4, -, a6, a7, -⟩ := e.1 j hj
    have b2 : A' 15 j = A 15 j := a2
    have b3 : A' 16 j = A 16 j := a3
    have b4 : A' 17 j = A 17 j := a4
    have b6 : A' 19 j = A 19 j := a6
    have b7 : A' 20 j = A 20 j := a7
    rw [b2, b3, b4, b6, b7]
    exact h2 j hj
  · obtain ⟨a1, a2⟩ := e.2.1 c hc
    have b1 : A' 24 c = A 24 c := a1
    have b2 : A' 25 c = A 25 c := a2
    rw [b1, b2]
    exact h3 c hc
section HourF
variable {S : Nat → Nat → Int32} {n k w : Nat} {p2 : Nat → Int32}
theorem g_st3 {j : Nat} : gA3 n w S p2 19 j = if gE1 n S j = true then 1 else S 19 j := rfl
theorem g_st4 {j : Nat} : gA4 n w S p2 19 j = if gE2 n w S p2 j = true then 2 else gA3 n w S p2 19 j := rfl
theorem g_go4 {j : Nat} : gA4 n w S p2 17 j = if gE2 n w S p2 j = true ∧ (2 : Int32) = 1 then 0 else (if gE1 n S j = true ∧ (1 : Int32) = 1 then 0 else S 17 j) := rfl
theorem g_wa4 {j : Nat} : gA4 n w S p2 16 j = if j < n ∧ S 19 j = 0 then mmin 100 (S 16 j + S 15 j) else S 16 j := rfl
theorem g_pe4 {j : Nat} : gA4 n w S p2 18 j = if gE2 n w S p2 j = true then 0 else (if gE1 n S j = true then 0 else S 18 j) := rfl
theorem g_li4 {j : Nat} : gA4 n w S p2 14 j = S 14 j := rfl
theorem g_lk4 {j : Nat} : gA4 n w S p2 15 j = S 15 j := rfl
theorem g_x4 {j : Nat} : gA4 n w S p2 20 j = gA3 n w S p2 20 j := rfl
theorem g_T4 {q : Nat} : gA4 n w S p2 69 q = if gE2 n w S p2 (q / 24) = true ∨ gE2 n w S p2 (q % 24) = true then 0 else (if brk (S 62) w (gA1 n S) q = true then 0 else (if gE1 n S (q / 24) = true ∨ gE1 n S (q % 24) = true then 0 else S 69 q)) := rfl
theorem g_U4 {q : Nat} : gA4 n w S p2 70 q = S 70 q + strn (S 62) w (gA1 n S) (q / 24) (q % 24) / 4 := rfl
theorem g_T1 {q : Nat} : gA1 n S 69 q = if gE1 n S (q / 24) = true ∨ gE1 n S (q % 24) = true then 0 else S 69 q := rfl
theorem g_U1 {q : Nat} : gA1 n S 70 q = S 70 q := rfl
theorem g_se3 {c : Nat} : gA3 n w S p2 24 c = if onE (gE1 n S) (S 24 c) = true then -1 else S 24 c := rfl
theorem g_ks3 {c : Nat} : gA3 n w S p2 25 c = if onE (gE1 n S) (S 24 c) = true then 1 else S 25 c := rfl
theorem g_se4 {c : Nat} : gA4 n w S p2 24 c = if onE (gE2 n w S p2) (gA3 n w S p2 24 c) = true then -1 else gA3 n w S p2 24 c := rfl
theorem g_ks4 {c : Nat} : gA4 n w S p2 25 c = if onE (gE2 n w S p2) (gA3 n w S p2 24 c) = true then 2 else gA3 n w S p2 25 c := rfl
theorem g_strn {a b : Nat} (ha : gE1 n S a = false) (hb : gE1 n S b = false) : strn (S 62) w (gA1 n S) a b = strn (S 62) w S a b := by
  have l : ∀ c, gE1 n S c = false → ld (gA1 n S) c = ld S c := fun c hc => by
    show (if gE1 n S c = true ∧ (1 : Int32) = 1 then 0 else S 17 c) + 7 * (if gE1 n S c = true then 0 else S 18 c) = ld S c
    rw [hc]
    rfl
  unfold strn
  rw [l a ha, l b hb]
  rfl
theorem g_E1n (hP : PN n S (S 22)) {j : Nat} (h0 : S 19 j ≠ 0) : gE1 n S j = false := by
  refine decide_eq_false fun z => z.2.1 ?_
  rw [hP.2.2 j z.1 h0]
  exact m1_neg
/-- who is lost or saved stays so, with the same goods, at the same column -/
theorem g_ended (hW : WA n k S) (hP : PN n S (S 22)) (hp2 : PN n (gA2 n w S) p2) {j : Nat} (hj : j < n) (h0 : S 19 j ≠ 0) : gA4 n w S p2 19 j = S 19 j ∧ gA4 n w S p2 17 j = S 17 j ∧ gA4 n w S p2 20 j = S 20 j := by
  have e1 := g_E1n hP h0
  have s3 : gA3 n w S p2 19 j = S 19 j := by rw [g_st3, e1]; rfl
  have e2 : gE2 n w S p2 j = false := decide_eq_false fun z => h0 (by rw [← s3]; exact z.2.1)
  refine ⟨by rw [g_st4, e2, if_neg (by decide), s3], by rw [g_go4, e1, e2]; rfl, ?_⟩
  rw [g_x4]
  have h2 : gA2 n w S kB_state j ≠ 0 := by
    show (if gE1 n S j = true then 1 else S 19 j) ≠ 0
    rw [e1, if_neg (by decide)]
    exact h0
  exact (no_drift (w := w) (Wt := S 62) (wx := S 6 0) (wy := S 7 0) hp2 hj h2).1
/-- who floats then floated before, and is not at the shore -/
theorem g_float {j : Nat} (hj : j < n) (h0 : gA4 n w S p2 19 j = 0) : S 19 j = 0 ∧ gE1 n S j = false ∧ gE2 n w S p2 j = false ∧ gA4 n w S p2 20 j ≠ 29 := by
  rw [g_st4] at h0
  have e2 : gE2 n w S p2 j = false := by
    cases z : gE2 n w S p2 j with
    | false => rfl
    | true =>
      rw [z, if_pos rfl] at h0
      exact absurd h0 (by decide)
  rw [e2, if_neg (by decide)] at h0
  have h3 := h0
  rw [g_st3] at h0
  have e1 : gE1 n S j = false := by
    cases z : gE1 n S j with
    | false => rfl
    | true =>
      rw [z, if_pos rfl] at h0
      exact absurd h0 (by decide)
  rw [e1, if_neg (by decide)] at h0
  refine ⟨h0, e1, e2, fun z => ?_⟩
  have : gE2 n w S p2 j = true := decide_eq_true ⟨hj, h3, z⟩
  rw [e2] at this
  exact absurd this (by decide)
/-- a lashing that is there then -/
theorem g_kept {q : Nat} (h0 : 0 < gA4 n w S p2 69 q) : 0 < S 69 q ∧ gA4 n w S p2 69 q = S 69 q ∧ gA4 n w S p2 70 q = S 70 q + strn (S 62) w S (q / 24) (q % 24) / 4 ∧ strn (S 62) w S (q / 24) (q % 24) ≤ S 69 q - S 70 q := by
  rw [g_T4] at h0
  by_cases z2 : gE2 n w S p2 (q / 24) = true ∨ gE2 n w S p2 (q % 24) = true
  · rw [if_pos z2] at h0
    exact absurd h0 (by decide)
  · rw [if_neg z2] at h0
    by_cases zb : brk (S 62) w (gA1 n S) q = true
    · rw [if_pos zb] at h0
      exact absurd h0 (by decide)
    · rw [if_neg zb] at h0
      by_cases z1 : gE1 n S (q / 24) = true ∨ gE1 n S (q % 24) = true
      · rw [if_pos z1] at h0
        exact absurd h0 (by decide)
      · rw [if_neg z1] at h0
        have ea : gE1 n S (q / 24) = false := Bool.eq_false_iff.mpr fun z => z1 (Or.inl z)
        have eb : gE1 n S (q % 24) = false := Bool.eq_false_iff.mpr fun z => z1 (Or.inr z)
        have t1 : gA1 n S 69 q = S 69 q := by rw [g_T1, if_neg z1]
        refine ⟨h0, by rw [g_T4, if_neg z2, if_neg zb, if_neg z1], by rw [g_U4, g_strn ea eb], ?_⟩
        refine Classical.byContradiction fun no => zb (decide_eq_true ⟨?_, ?_⟩)
        · show 0 < gA1 n S 69 q
          rw [t1]; exact h0
        · show ¬ strn (S 62) w (gA1 n S) (q / 24) (q % 24) ≤ gA1 n S 69 q - gA1 n S 70 q
          rw [t1, g_U1, g_strn ea eb]
          exact no
/-- a lashing that is gone between barrels of which one floats -/
theorem g_gone (hW : WA n k S) (hS : WOK w (S 62)) (hP : PN n S (S 22)) (hp2 : PN n (gA2 n w S) p2) {a b : Nat} (hab : a < b) (hb : b < n) (h0 : 0 < S 69 (24 * a + b)) (h4 : ¬ 0 < gA4 n w S p2 69 (24 * a + b)) (hf : gA4 n w S p2 19 a = 0 ∨ gA4 n w S p2 19 b = 0) : brk (S 62) w (gA1 n S) (24 * a + b) = true ∧ ¬ strn (S 62) w S a b ≤ S 69 (24 * a + b) - S 70 (24 * a + b) := by
  have hn := hW.1
  have qa : (24 * a + b) / 24 = a := by omega
  have qb : (24 * a + b) % 24 = b := by omega
  have t0 : Tie n (stepW n S kM_strength) a b := ⟨by omega, hb, by omega, by rw [pr_of hab]; exact h0⟩
  have e1 : gE1 n S a = gE1 n S b := EO_tie hn (A := stepW n S) (p := S 22) hP a b t0
  have ea : gE1 n S a = false := by
    rcases hf with hf | hf
    · exact (g_float (by omega) hf).2.1
    · rw [e1]; exact (g_float hb hf).2.1
  have eb : gE1 n S b = false := e1.symm.trans ea
  have z1 : ¬ (gE1 n S ((24 * a + b) / 24) = true ∨ gE1 n S ((24 * a + b) % 24) = true) := by
    rw [qa, qb, ea, eb]; decide
  have t1 : gA1 n S 69 (24 * a + b) = S 69 (24 * a + b) := by rw [g_T1, if_neg z1]
  have hb2 : brk (S 62) w (gA1 n S) (24 * a + b) = true := by
    refine Classical.byContradiction fun zb => h4 ?_
    have t3 : Tie n (gA3 n w S p2 kM_strength) a b := by
      refine ⟨by omega, hb, by omega, ?_⟩
      rw [pr_of hab]
      show 0 < (if brk (S 62) w (gA1 n S) (24 * a + b) = true then 0 else gA1 n S 69 (24 * a + b))
      rw [if_neg zb, t1]
      exact h0
    have e2 : gE2 n w S p2 a = gE2 n w S p2 b := ES_tie (WA_hA3 (wx := S 6 0) (wy := S 7 0) hW hS hp2) a b t3
    have f2 : gE2 n w S p2 a = false := by
      rcases hf with hf | hf
      · exact (g_float (by omega) hf).2.2.1
      · rw [e2]; exact (g_float hb hf).2.2.1
    rw [g_T4, qa, qb, ← e2, f2, if_neg (by decide), if_neg zb, ea, eb, if_neg (by decide)]
    exact h0
  refine ⟨hb2, ?_⟩
  have := (of_decide_eq_true hb2).2
  have h5 : ¬ strn (S 62) w (gA1 n S) ((24 * a + b) / 24) ((24 * a + b) % 24) ≤ gA1 n S 69 (24 * a + b) - gA1 n S 70 (24 * a + b) := this
  rw [qa, qb, t1, g_U1, g_strn ea eb] at h5
  exact h5
theorem g_notied {T : Nat → Int32} {a b : Nat} (hn : n ≤ 24) (hd : deg n T a = 0) : ¬ Tie n T a b := fun t => by
  have := ns_pos (g := fun y => if tbb n T a y = true then 1 else 0) (n := 24) (k := b) (by have := t.2.1; omega) (by
    show 0 < (if tbb n T a b = true then 1 else 0)
    rw [if_pos (tb_iff.mpr t)]
    exact Nat.zero_lt_one)
  unfold deg at hd
  omega
/-- who is alone and has no lashing ahead of the hour bears its load, if it floats then -/
theorem g_alone (hW : WA n k S) (hP : PN n S (S 22)) {j : Nat} (hj : j < n) (hd : deg n (S 69) j = 0) (h0 : gA4 n w S p2 19 j = 0) : ld (gA4 n w S p2) j ≤ lf (gA4 n w S p2) j := by
  have hn := hW.1
  obtain ⟨s0, e1, e2, -⟩ := g_float hj h0
  obtain ⟨i, i1, i2, i3⟩ := hP.1 j hj s0
  have one : ∀ b, b < n → S 22 b = S 22 j → b = j := fun b hb z => by
    refine Classical.byContradiction fun no => ?_
    have c := (conn_piece hn hW.2.2.2.2.1 hP hj hb (fun y => no y.symm)).mpr ⟨by rw [i2]; exact n_nonneg (by omega), z.symm⟩
    exact no (c (fun z => z = j) rfl (fun x y hxy hx => by
      rw [hx] at hxy
      exact absurd hxy (g_notied hn hd)))
  have hx : LD n (stepW n S) (S 22) (S 22 j) ≤ LF n (stepW n S) (S 22) (S 22 j) := by
    refine Classical.byContradiction fun no => ?_
    have : gE1 n S j = true := decide_eq_true ⟨hj, by rw [i2]; exact n_neg (by omega), no⟩
    rw [e1] at this
    exact absurd this (by decide)
  have pick : ∀ g : Nat → Int32, fs (fun b => if S 22 b = S 22 j then g b else 0) n = g j := fun g => by
    have h1 : fs (fun b => if S 22 b = S 22 j then g b else 0) n = fs (upd (fun _ => 0) j (g j)) n := fs_congr fun b hb => by
      by_cases z : b = j
      · rw [z, if_pos rfl, upd_a]
      · rw [if_neg (fun y => z (one b hb y)), upd_b z]
    rw [h1, fs_upd hj, fs_zero (fun _ _ => rfl), Int32.sub_zero, Int32.zero_add]
  unfold LD LF at hx
  rw [pick, pick] at hx
  have l1 : ld (gA4 n w S p2) j = ld (stepW n S) j := by
    unfold ld
    show gA4 n w S p2 17 j + 7 * gA4 n w S p2 18 j = S 17 j + 7 * S 18 j
    rw [g_go4, g_pe4, e1, e2]
    rfl
  rw [l1]
  exact hx
/-- who is alone: the sums of its piece are its own -/
theorem g_one {p : Nat → Int32} {j : Nat} (hj : j < n) (h1 : fs (fun b => if p b = p j then 1 else 0) n = 1) (hn : n ≤ 24) (g : Nat → Int32) : fs (fun b => if p b = p j then g b else 0) n = g j := by
  have e := fs_ns (P := fun b => p b = p j) (n := n)
  have b1 := ns_le1 (P := fun b => p b = p j) (n := n)
  rw [h1] at e
  have h2 : ns (fun b => if p b = p j then 1 else 0) n = 1 := ((nI_eq (a := 1) (by omega) (by omega)).mp e).symm
  have one : ∀ b, b < n → p b = p j → b = j := fun b hb z => by
    refine Classical.byContradiction fun no => ?_
    have := ns_lt (g := fun c => if c = j then 1 else 0) (h := fun c => if p c = p j then 1 else 0) (n := n) (k := b) (fun c _ => by
      try dsimp only
      by_cases y : c = j
      · rw [if_pos y, if_pos (by rw [y])]
        exact Nat.le_refl _
      · rw [if_neg y]
        exact Nat.zero_le _) hb (by
      try dsimp only
      rw [if_neg no, if_pos z]
      exact Nat.zero_lt_one)
    rw [h2, ns_pick (g := fun _ => 1) hj] at this
    omega
  have h3 : fs (fun b => if p b = p j then g b else 0) n = fs (upd (fun _ => 0) j (g j)) n := fs_congr fun b hb => by
    by_cases z : b = j
    · rw [z, if_pos rfl, upd_a]
    · rw [if_neg (fun y => z (one b hb y)), upd_b z]
  rw [h3, fs_upd hj, fs_zero (fun _ _ => rfl), Int32.sub_zero, Int32.zero_add]
theorem XI_hour (hW : WA n k S) (hS : WOK w (S 62)) (hP : PN n S (S 22)) (hp2 : PN n (gA2 n w S) p2) (h : XI n k S) : XI n k (gA4 n w S p2) := by
  obtain ⟨h1, h2, h3⟩ := h
  have hn := hW.1
  refine ⟨fun q hq h0 => ?_, fun j hj => ?_, fun c hc => ?_⟩
  · obtain ⟨k0, k1, k2, k3⟩ := g_kept h0
    obtain ⟨d, hd, ed⟩ := h1 q hq k0
    obtain ⟨a, b, e, hab, hb, -⟩ := hW.2.2.2.2.1 q hq (i_pos_ne k0)
    have hb' : b < n := hb
    obtain ⟨s, hs, es⟩ := strn_n (w := w) (Wt := S 62) hW hS (a := q / 24) (b := q % 24) (by omega) (by omega)
    rw [es, ed] at k3
    have hsd := (nI_leI (by omega) (by omega)).mp k3
    refine ⟨d - s / 4, by omega, ?_⟩
    rw [k1, k2, es, i_sub_add, ed, show (4 : Int32) = nI 4 from rfl, pk_div (by omega) (by omega) (by omega), pk_sub (by omega)]
  · obtain ⟨x1, x2, ⟨g, hg, eg⟩, ⟨l, hl, el⟩, x5⟩ := h2 j hj
    have hw4 : ∃ g, g ≤ 100 ∧ gA4 n w S p2 16 j = nI g := by
      rw [g_wa4]
      by_cases z : j < n ∧ S 19 j = 0
      · rw [if_pos z, eg, el, nI_add, show (100 : Int32) = nI 100 from rfl, mmin_n (by omega) (by omega)]
        exact ⟨min 100 (g + l), by omega, rfl⟩
      · rw [if_neg z]
        exact ⟨g, hg, eg⟩
    refine ⟨?_, ?_, hw4, ⟨l, hl, el⟩, ?_⟩
    · intro z
      by_cases s0 : S 19 j = 0
      · rw [g_st4] at z
        by_cases e2 : gE2 n w S p2 j = true
        · exact (of_decide_eq_true e2).2.2
        · rw [if_neg e2, g_st3] at z
          by_cases e1 : gE1 n S j = true
          · rw [if_pos e1] at z
            exact absurd z (by decide)
          · rw [if_neg e1, s0] at z
            exact absurd z (by decide)
      · obtain ⟨y1, y2, y3⟩ := g_ended hW hP hp2 hj s0
        rw [y3]
        rw [y1] at z
        exact x1 z
    · intro z
      by_cases s0 : S 19 j = 0
      · rw [g_st4] at z
        by_cases e2 : gE2 n w S p2 j = true
        · rw [if_pos e2] at z
          exact absurd z (by decide)
        · rw [if_neg e2, g_st3] at z
          by_cases e1 : gE1 n S j = true
          · rw [g_go4, if_neg (fun y => absurd y.2 (by decide)), if_pos ⟨e1, rfl⟩]
          · rw [if_neg e1, s0] at z
            exact absurd z (by decide)
      · obtain ⟨y1, y2, y3⟩ := g_ended hW hP hp2 hj s0
        rw [y2]
        rw [y1] at z
        exact x2 z
    · rw [g_st4]
      by_cases e2 : gE2 n w S p2 j = true
      · rw [if_pos e2]; exact Or.inr (Or.inr rfl)
      · rw [if_neg e2, g_st3]
        by_cases e1 : gE1 n S j = true
        · rw [if_pos e1]; exact Or.inr (Or.inl rfl)
        · rw [if_neg e1]; exact x5
  · obtain ⟨x1, x2⟩ := h3 c hc
    have y1 : gA3 n w S p2 24 c = -1 → gA3 n w S p2 25 c = 1 ∨ gA3 n w S p2 25 c = 2 := by
      rw [g_se3, g_ks3]
      by_cases z : onE (gE1 n S) (S 24 c) = true
      · rw [if_pos z, if_pos z]; exact fun _ => Or.inl rfl
      · rw [if_neg z, if_neg z]; exact x1
    have y2 : gA3 n w S p2 25 c = 0 ∨ gA3 n w S p2 25 c = 1 ∨ gA3 n w S p2 25 c = 2 := by
      rw [g_ks3]
      by_cases z : onE (gE1 n S) (S 24 c) = true
      · rw [if_pos z]; exact Or.inr (Or.inl rfl)
      · rw [if_neg z]; exact x2
    rw [g_se4, g_ks4]
    by_cases z : onE (gE2 n w S p2) (gA3 n w S p2 24 c) = true
    · rw [if_pos z, if_pos z]; exact ⟨fun _ => Or.inr rfl, Or.inr (Or.inr rfl)⟩
    · rw [if_neg z, if_neg z]; exact ⟨y1, y2⟩
/-- castaways that are lost or saved stay so -/
theorem g_crew (hK : ∀ c, c < k → S 25 c ≠ 0 → S 24 c = -1) {c : Nat} (hc : c < k) (h0 : S 25 c ≠ 0) : gA4 n w S p2 25 c = S 25 c := by
  have s := hK c hc h0
  have e1 : onE (gE1 n S) (S 24 c) = false := by rw [s, onE_m1]
  have e3 : gA3 n w S p2 24 c = -1 := by rw [g_se3, e1, if_neg (by decide), s]
  rw [g_ks4, e3, onE_m1, if_neg (by decide), g_ks3, e1, if_neg (by decide)]
theorem g_crewI (hK : ∀ c, c < k → S 25 c ≠ 0 → S 24 c = -1) {c : Nat} (hc : c < k) : gA4 n w S p2 25 c ≠ 0 → gA4 n w S p2 24 c = -1 := by
  have k1 : KI k S := hK
  have k2 : KI k (gA3 n w S p2) := (KI_end (A := stepW n S) (E := gE1 n S) (f := 1) k1).1
  exact (KI_end (A := gA3 n w S p2) (E := gE2 n w S p2) (f := 2) k2).1 c hc
end HourF
