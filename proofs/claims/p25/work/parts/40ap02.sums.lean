/-! the class, piece by piece: barrels, castaways -/
theorem lt1 {P : Prop} [Decidable P] {a b : Int32} (h : P) : (if P then a else b) = a := if_pos h
theorem c_has {n j : Nat} (hn : n ≤ 600) (hj : j < 600) : jX0_has (nI n) (nI j) = some (if j < n then 1 else 0) := by
  unfold jX0_has
  rw [if_neg (n_neg (by omega))]
  by_cases h : j < n
  · simp (disch := omega) only [chk_n, rd_n, wr_n, bnd_n, chkZ_a, chkZ_b, jn_n, sel_a, sel_b, nI_leI, nI_ltI, nI_eq, nI_1, nI_add, upd_a, Nat.not_le.mpr h, h, if_true, if_false]
  · simp (disch := omega) only [chk_n, rd_n, wr_n, bnd_n, chkZ_a, chkZ_b, jn_n, sel_a, sel_b, nI_leI, nI_ltI, nI_eq, nI_1, nI_add, upd_a, Nat.le_of_not_lt h, h, if_true, if_false]
theorem c_has_m1 {n : Nat} : jX0_has (nI n) (-1) = some 0 := by
  unfold jX0_has
  rw [if_pos m1_neg, chkZ_a]
/-- any int as a number of a barrel -/
theorem c_has_no {n : Nat} {a : Int32} (hn : n ≤ 600) (h : ∀ j, j < n → a ≠ nI j) : jX0_has (nI n) a = some 0 := by
  unfold jX0_has
  rcases pk_ix a (n := n) (by omega) with h1 | h1 | ⟨j, hj, rfl⟩
  · rw [if_pos h1, chkZ_a]
  · by_cases h2 : a < 0
    · rw [if_pos h2, chkZ_a]
    · rw [if_neg h2, if_pos h1, chkZ_a]
  · exact absurd rfl (h j hj)
theorem c_floats {n j : Nat} {st : Nat → Int32} (hn : n ≤ 24) (hj : j < n) : jX0_floats (nI n) st (nI j) = some (if st j = 0 then 1 else 0) := by
  unfold jX0_floats
  rw [c_has (by omega) (by omega), if_pos hj]
  simp (disch := omega) only [chk_n, rd_n, wr_n, bnd_n, chkZ_a, chkZ_b, jn_n, sel_a, sel_b, nI_leI, nI_ltI, nI_eq, nI_1, nI_add, upd_a, if_neg (show ¬ (1 : Int32) = 0 by decide)]
  by_cases h : st j = 0
  · simp only [h, if_true, chkZ_b]
  · simp only [h, if_false, chkZ_a]
theorem c_liftNow {b : Nat} {li wa : Nat → Int32} (h : b < 24) : jX0_liftNow li wa (nI b) = some (li b * (100 - wa b) / 100) := by
  unfold jX0_liftNow
  simp (disch := omega) only [chk_n, rd_n, wr_n, bnd_n, chkZ_a, chkZ_b, jn_n, sel_a, sel_b, nI_leI, nI_ltI, nI_eq, nI_1, nI_add, upd_a]
theorem c_loadOf {b : Nat} {go pe : Nat → Int32} (h : b < 24) : jX0_loadOf go pe (nI b) = some (go b + 7 * pe b) := by
  unfold jX0_loadOf
  simp (disch := omega) only [chk_n, rd_n, wr_n, bnd_n, chkZ_a, chkZ_b, jn_n, sel_a, sel_b, nI_leI, nI_ltI, nI_eq, nI_1, nI_add, upd_a]
theorem c_countOf {n : Nat} {st : Nat → Int32} {w : Int32} (hn : n ≤ 24) : jX0_countOf (nI n) st w = some (fs (fun j => if st j = w then 1 else 0) n) := by
  refine bnd_i (itF0 (fun f s v => jX0_countOf_L4 (nI n) st w f s v) (fs (fun j => if st j = w then 1 else 0)) n (by omega) rfl (fun f => ?_) (fun f j hj => ?_)) rfl
  · simp (disch := omega) only [chk_n, rd_n, wr_n, bnd_n, chkZ_a, chkZ_b, jn_n, sel_a, sel_b, nI_leI, nI_ltI, nI_eq, nI_1, nI_add, upd_a, jX0_countOf_L4, Nat.le_refl, if_true]
  · simp (disch := omega) only [chk_n, rd_n, wr_n, bnd_n, chkZ_a, chkZ_b, jn_n, sel_a, sel_b, nI_leI, nI_ltI, nI_eq, nI_1, nI_add, upd_a, jX0_countOf_L4, Nat.not_le.mpr hj, if_false]
    by_cases h : st j = w
    · simp only [h, if_true, fs]
    · simp only [h, if_false, fs, Int32.add_zero]
theorem c_kcount {n : Nat} {st : Nat → Int32} {w : Int32} (hn : n ≤ 8) : jX1_countOf (nI n) st w = some (fs (fun j => if st j = w then 1 else 0) n) := by
  refine bnd_i (itF0 (fun f s v => jX1_countOf_L4 (nI n) st w f s v) (fs (fun j => if st j = w then 1 else 0)) n (by omega) rfl (fun f => ?_) (fun f j hj => ?_)) rfl
  · simp (disch := omega) only [chk_n, rd_n, wr_n, bnd_n, chkZ_a, chkZ_b, jn_n, sel_a, sel_b, nI_leI, nI_ltI, nI_eq, nI_1, nI_add, upd_a, jX1_countOf_L4, Nat.le_refl, if_true]
  · simp (disch := omega) only [chk_n, rd_n, wr_n, bnd_n, chkZ_a, chkZ_b, jn_n, sel_a, sel_b, nI_leI, nI_ltI, nI_eq, nI_1, nI_add, upd_a, jX1_countOf_L4, Nat.not_le.mpr hj, if_false]
    by_cases h : st j = w
    · simp only [h, if_true, fs]
    · simp only [h, if_false, fs, Int32.add_zero]
theorem c_pieces {n : Nat} {p : Nat → Int32} (hn : n ≤ 24) : jX0_pieces (nI n) p = some (fs (fun j => if p j = nI j then 1 else 0) n) := by
  refine bnd_i (itF0 (fun f s v => jX0_pieces_L4 (nI n) p f s v) (fs (fun j => if p j = nI j then 1 else 0)) n (by omega) rfl (fun f => ?_) (fun f j hj => ?_)) rfl
  · simp (disch := omega) only [chk_n, rd_n, wr_n, bnd_n, chkZ_a, chkZ_b, jn_n, sel_a, sel_b, nI_leI, nI_ltI, nI_eq, nI_1, nI_add, upd_a, jX0_pieces_L4, Nat.le_refl, if_true]
  · simp (disch := omega) only [chk_n, rd_n, wr_n, bnd_n, chkZ_a, chkZ_b, jn_n, sel_a, sel_b, nI_leI, nI_ltI, nI_eq, nI_1, nI_add, upd_a, jX0_pieces_L4, Nat.not_le.mpr hj, if_false]
    by_cases h : p j = nI j
    · simp only [h, if_true, fs]
    · simp only [h, if_false, fs, Int32.add_zero]
theorem c_goodsSaved {n : Nat} {go st : Nat → Int32} (hn : n ≤ 24) : jX0_goodsSaved (nI n) go st = some (fs (fun j => if st j = 2 then go j else 0) n) := by
  refine bnd_i (itF0 (fun f s v => jX0_goodsSaved_L4 (nI n) go st f s v) (fs (fun j => if st j = 2 then go j else 0)) n (by omega) rfl (fun f => ?_) (fun f j hj => ?_)) rfl
  · simp (disch := omega) only [chk_n, rd_n, wr_n, bnd_n, chkZ_a, chkZ_b, jn_n, sel_a, sel_b, nI_leI, nI_ltI, nI_eq, nI_1, nI_add, upd_a, jX0_goodsSaved_L4, Nat.le_refl, if_true]
  · simp (disch := omega) only [chk_n, rd_n, wr_n, bnd_n, chkZ_a, chkZ_b, jn_n, sel_a, sel_b, nI_leI, nI_ltI, nI_eq, nI_1, nI_add, upd_a, jX0_goodsSaved_L4, Nat.not_le.mpr hj, if_false]
    by_cases h : st j = 2
    · simp only [h, if_true, fs]
    · simp only [h, if_false, fs, Int32.add_zero]
theorem c_takeIn {n : Nat} {lk wa st : Nat → Int32} (hn : n ≤ 24) : jX0_takeInWater (nI n) lk wa st = some (fun i => if i < n ∧ st i = 0 then mmin 100 (wa i + lk i) else wa i) := by
  refine bnd_i (itF0 (fun f s v => jX0_takeInWater_L2 (nI n) lk st f s v) (fun j i => if i < j ∧ st i = 0 then mmin 100 (wa i + lk i) else wa i) n (by omega) (by simp) (fun f => ?_) (fun f j hj => ?_)) rfl
  · simp (disch := omega) only [chk_n, rd_n, wr_n, bnd_n, chkZ_a, chkZ_b, jn_n, sel_a, sel_b, nI_leI, nI_ltI, nI_eq, nI_1, nI_add, upd_a, jX0_takeInWater_L2, Nat.le_refl, if_true]
  · simp (disch := omega) only [chk_n, rd_n, wr_n, bnd_n, chkZ_a, chkZ_b, jn_n, sel_a, sel_b, nI_leI, nI_ltI, nI_eq, nI_1, nI_add, upd_a, jX0_takeInWater_L2, Nat.not_le.mpr hj, if_false]
    by_cases h : st j = 0
    · simp only [h, if_true]
      congr 1
      funext i
      unfold upd
      by_cases hi : i = j
      · subst hi
        simp [h]
      · simp only [if_neg hi, p_lts hi]
    · simp only [h, if_false]
      congr 1
      funext i
      by_cases hi : i = j
      · subst hi
        simp [h]
      · simp only [p_lts hi]
theorem c_standAlone {n : Nat} {st p : Nat → Int32} (hn : n ≤ 24) : jX0_standAlone (nI n) st p = some (fun i => if i < n then (if st i = 0 then nI i else -1) else p i) := by
  refine bnd_i (itF0 (fun f s v => jX0_standAlone_L2 (nI n) st f s v) (fun j i => if i < j then (if st i = 0 then nI i else -1) else p i) n (by omega) (by simp) (fun f => ?_) (fun f j hj => ?_)) rfl
  · simp (disch := omega) only [chk_n, rd_n, wr_n, bnd_n, chkZ_a, chkZ_b, jn_n, sel_a, sel_b, nI_leI, nI_ltI, nI_eq, nI_1, nI_add, upd_a, jX0_standAlone_L2, Nat.le_refl, if_true]
  · simp (disch := omega) only [chk_n, rd_n, wr_n, bnd_n, chkZ_a, chkZ_b, jn_n, sel_a, sel_b, nI_leI, nI_ltI, nI_eq, nI_1, nI_add, upd_a, jX0_standAlone_L2, Nat.not_le.mpr hj, if_false]
    by_cases h : st j = 0
    · simp only [h, if_true]
      congr 1
      funext i
      unfold upd
      by_cases hi : i = j
      · subst hi
        simp [h]
      · simp only [if_neg hi, p_lts hi]
    · simp only [h, if_false]
      congr 1
      funext i
      unfold upd
      by_cases hi : i = j
      · subst hi
        simp [h]
      · simp only [if_neg hi, p_lts hi]
/-- the first that floats, as a search -/
def fst0 (st : Nat → Int32) : Nat → Nat → Option Nat
  | 0, _ => none
  | c + 1, j => if st j = 0 then some j else fst0 st c (j + 1)
theorem fst0_some {st : Nat → Int32} : ∀ {c j i : Nat}, fst0 st c j = some i → j ≤ i ∧ i < j + c ∧ st i = 0 ∧ ∀ k, j ≤ k → k < i → st k ≠ 0
  | 0, _, _, h => by cases h
  | c + 1, j, i, h => by
    rw [fst0] at h
    by_cases hs : st j = 0
    · rw [if_pos hs] at h
      obtain rfl := Option.some.inj h
      exact ⟨Nat.le_refl _, by omega, hs, fun k h1 h2 => by omega⟩
    · rw [if_neg hs] at h
      obtain ⟨h1, h2, h3, h4⟩ := fst0_some h
      refine ⟨by omega, by omega, h3, fun k h5 h6 => ?_⟩
      by_cases hk : k = j
      · subst hk; exact hs
      · exact h4 k (by omega) h6
theorem fst0_none {st : Nat → Int32} : ∀ {c j : Nat}, fst0 st c j = none → ∀ k, j ≤ k → k < j + c → st k ≠ 0
  | 0, _, _, k, h1, h2 => by omega
  | c + 1, j, h, k, h1, h2 => by
    rw [fst0] at h
    by_cases hs : st j = 0
    · rw [if_pos hs] at h; cases h
    · rw [if_neg hs] at h
      by_cases hk : k = j
      · subst hk; exact hs
      · exact fst0_none h k (by omega) (by omega)
theorem c_firstL {n : Nat} {st : Nat → Int32} (hn : n ≤ 24) : ∀ f j, j ≤ n → n < f + j → jX0_firstAfloat_L2 (nI n) st f (nI j) = some (match fst0 st (n - j) j with | some i => .inl (nI i) | none => .inr ()) := by
  intro f
  induction f with
  | zero => intro j h1 h2; omega
  | succ f ih =>
    intro j h1 h2
    rw [jX0_firstAfloat_L2]
    by_cases hj : j = n
    · subst hj
      simp (disch := omega) only [chk_n, rd_n, wr_n, bnd_n, chkZ_a, chkZ_b, jn_n, sel_a, sel_b, nI_leI, nI_ltI, nI_eq, nI_1, nI_add, upd_a, Nat.le_refl, if_true, Nat.sub_self, fst0]
    · rw [show n - j = (n - (j + 1)) + 1 by omega, fst0]
      simp (disch := omega) only [chk_n, rd_n, wr_n, bnd_n, chkZ_a, chkZ_b, jn_n, sel_a, sel_b, nI_leI, nI_ltI, nI_eq, nI_1, nI_add, upd_a, show ¬ n ≤ j by omega, if_false]
      by_cases h : st j = 0
      · simp only [h, if_true]
      · simp only [h, if_false]
        exact ih (j + 1) (by omega) (by omega)
theorem c_firstAfloat {n : Nat} {st : Nat → Int32} (hn : n ≤ 24) : jX0_firstAfloat (nI n) st = some (match fst0 st n 0 with | some i => nI i | none => -1) := by
  refine bnd_i (c_firstL hn FU 0 (by omega) (by unfold FU; omega)) ?_
  rw [Nat.sub_zero]
  cases fst0 st n 0 <;> rfl
theorem c_end {b : Nat} {go pe st p : Nat → Int32} {f : Int32} (h : b < 24) : jX0_end go pe st p (nI b) f = some (if f = 1 then upd go b 0 else go, upd pe b 0, upd st b f, upd p b (-1)) := by
  unfold jX0_end
  simp (disch := omega) only [chk_n, rd_n, wr_n, bnd_n, chkZ_a, chkZ_b, jn_n, sel_a, sel_b, nI_leI, nI_ltI, nI_eq, nI_1, nI_add, upd_a]
  by_cases hf : f = 1
  · simp only [hf, if_true]
  · simp only [hf, if_false]
