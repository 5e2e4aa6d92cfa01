/-! the counting loops of the class -/
theorem c_countOf {n : Nat} {st : Nat → Int32} {w : Int32} (hn : n ≤ 24) : jX0_countOf (nI n) st w = some (fs (fun j => if st j = w then 1 else 0) n) := by
  refine bnd_i (itF0 (fun f s v => jX0_countOf_L4 (nI n) st w f s v) (fs (fun j => if st j = w then 1 else 0)) n (by omega) rfl (fun f => ?_) (fun f j hj => ?_)) rfl
  · simp (disch := omega) only [chk_n, rd_n, wr_n, bnd_n, chkZ_a, chkZ_b, jn_n, sel_a, sel_b, nI_leI, nI_ltI, nI_eq, nI_1, nI_add, upd_a, jX0_countOf_L4, Nat.le_refl, if_true]
  · simp (disch := omega) only [chk_n, rd_n, wr_n, bnd_n, chkZ_a, chkZ_b, jn_n, sel_a, sel_b, nI_leI, nI_ltI, nI_eq, nI_1, nI_add, upd_a, jX0_countOf_L4, Nat.not_le.mpr hj, if_false]
    by_cases h : st j = w
    · simp only [h, if_true, fs]
    · simp only [h, if_false, fs, Int32.add_zero]
theorem c_takeIn {n : Nat} {lk wa st : Nat → Int32} (hn : n ≤ 24) : jX0_takeInWater (nI n) lk wa st = some (fun i => if i < n ∧ st i = 0 then mmin 100 (wa i + lk i) else wa i) := by
  refine bnd_i (itF0 (fun f s v => jX0_takeInWater_L2 (nI n) lk st f s v) (fun j i => if i < j ∧ st i = 0 then mmin 100 (wa i + lk i) else wa i) n (by omega) (by simp) (fun f => ?_) (fun f j hj => ?_)) rfl
  · simp (disch := omega) only [chk_n, rd_n, wr_n, bnd_n, chkZ_a, chkZ_b, jn_n, sel_a, sel_b, nI_leI, nI_ltI, nI_eq, nI_1, nI_add, upd_a, jX0_takeInWater_L2, Nat.le_refl, if_true]
  · simp (disch := omega) only [chk_n, rd_n, wr_n, bnd_n, chkZ_a, chkZ_b, jn_n, sel_a, sel_b, nI_leI, nI_ltI, nI_eq, nI_1, nI_add, upd_a, jX0_takeInWater_L2, Nat.not_le.mpr hj, if_false]
    by_cases h : st j = 0
    · simp only [h, if_true]
      congr 1
      funext i
      unfold upd
      by_cases hi : i = j
      · subst hi
        simp [h]
      · simp only [if_neg hi, p_lts hi]
    · simp only [h, if_false]
      congr 1
      funext i
      by_cases hi : i = j
      · subst hi
        simp [h]
      · simp only [p_lts hi]
