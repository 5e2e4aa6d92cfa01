/-! lashings are tied and cut; a barrel comes -/
theorem c_canBe {n : Nat} {co ro st x y : Nat → Int32} {a b : Nat} (hn : n ≤ 24) (ha : a < n) (hb : b < n) : jX0_canBeTied (nI n) co ro st x y (nI a) (nI b) = some (if st a = 0 ∧ st b = 0 ∧ mabs (co a - co b) + mabs (ro a - ro b) = 1 ∧ x a = x b ∧ y a = y b then 1 else 0) := by
  unfold jX0_canBeTied
  rw [c_floats hn ha, bnd_n]
  by_cases h1 : st a = 0
  · rw [if_pos h1, if_neg one_ne, c_floats hn hb, bnd_n]
    by_cases h2 : st b = 0
    · rw [if_pos h2, if_neg one_ne]
      simp (disch := omega) only [chk_n, rd_n]
      by_cases h3 : mabs (co a - co b) + mabs (ro a - ro b) = 1
      · rw [if_pos h3]
        by_cases h4 : x a = x b
        · rw [if_pos h4]
          by_cases h5 : y a = y b
          · rw [if_pos h5, if_pos ⟨h1, h2, h3, h4, h5⟩, chkZ_b]
          · rw [if_neg h5, if_neg (fun z => h5 z.2.2.2.2), chkZ_a]
        · rw [if_neg h4, if_neg (fun z => h4 z.2.2.2.1), chkZ_a]
      · rw [if_neg h3, if_neg (fun z => h3 z.2.2.1), chkZ_a]
    · rw [if_neg h2, if_pos rfl, if_neg (fun z => h2 z.2.1), chkZ_a]
  · rw [if_neg h1, if_pos rfl, if_neg (fun z => h1 z.1), chkZ_a]
theorem r_beside {n : Nat} {co ro fx : Nat → Int32} {a b : Nat} (hn : n ≤ 24) (ha : a < n) (hb : b < n) (hB : ∀ j, j < n → ∃ c d, c < 8 ∧ d < 8 ∧ co j = nI c ∧ ro j = nI d ∧ fx (3 * j + 0) = nI (c + 8 * d)) : jX7_areBeside fx (nI a) (nI b) = some (if mabs (co a - co b) + mabs (ro a - ro b) = 1 then 1 else 0) := by
  obtain ⟨c, d, hc, hd, e1, e2, e3⟩ := hB a ha
  obtain ⟨c', d', hc', hd', e1', e2', e3'⟩ := hB b hb
  unfold jX7_areBeside
  rw [r_fx0 (by omega), r_fx0 (by omega), bnd_n, bnd_n, bnd_n, bnd_n, e3, e3', e1, e2, e1', e2', l8, pk_rem (by omega) (by omega) (by omega), pk_rem (by omega) (by omega) (by omega), pk_div (by omega) (by omega) (by omega), pk_div (by omega) (by omega) (by omega), show (c + 8 * d) % 8 = c by omega, show (c' + 8 * d') % 8 = c' by omega, show (c + 8 * d) / 8 = d by omega, show (c' + 8 * d') / 8 = d' by omega]
  by_cases h : mabs (nI c - nI c') + mabs (nI d - nI d') = 1
  · rw [if_pos h, if_pos h, chkZ_b]
  · rw [if_neg h, if_neg h, chkZ_a]
theorem enu_tot {κ : Nat → Nat} {P : Nat → Bool} {N m : Nat} (h : enu κ m P N) : m = ns (fun k => if P k = true then 1 else 0) N := by
  rw [← enu_ns (g := fun _ => 1) h]
  clear h
  induction m with
  | zero => rfl
  | succ m ih => rw [ns, ← ih]
/-- the state with a lashing set -/
def setA (S : Nat → Nat → Int32) (p : Nat) (x : Int32) : Nat → Nat → Int32 := up (up S 69 (upd (S 69) p x)) 70 (upd (S 70) p 0)
theorem WA_set {n k : Nat} {S : Nat → Nat → Int32} {a b : Nat} {x : Int32} (hW : WA n k S) (ha : a < n) (hb : b < n) (hab : a ≠ b) (hx : 0 ≤ x) (hf : 0 < x → S kB_state a = 0 ∧ S kB_state b = 0 ∧ S kB_x a = S kB_x b ∧ S kB_y a = S kB_y b) : WA n k (setA S (pr a b) x) := by
  obtain ⟨q1, q2, q3, q4, q5, q6, q7⟩ := hW
  have hp := pr_lt (a := a) (b := b) (by omega) (by omega)
  refine ⟨q1, q2, q3, q4, fun q hq h0 => ?_, fun c d hcd => ?_, fun q hq h0 => ?_⟩
  · replace h0 : upd (S 69) (pr a b) x q ≠ 0 := h0
    show ∃ c d, q = 24 * c + d ∧ c < d ∧ d < n ∧ S 19 c = 0 ∧ S 19 d = 0 ∧ 0 < upd (S 69) (pr a b) x q
    by_cases e : q = pr a b
    · rw [e, upd_a] at h0 ⊢
      have hx0 : 0 < x := Int32.lt_of_le_of_ne hx (fun z => h0 z.symm)
      obtain ⟨f1, f2, -⟩ := hf hx0
      rcases Nat.lt_or_ge a b with w | w
      · exact ⟨a, b, pr_of w, w, hb, f1, f2, hx0⟩
      · exact ⟨b, a, by rw [pr_comm, pr_of (by omega)], by omega, ha, f2, f1, hx0⟩
    · rw [upd_b e] at h0 ⊢
      exact q5 q hq h0
  · have h4 : 0 < upd (S 69) (pr a b) x (pr c d) := hcd.2.2.2
    show S 20 c = S 20 d ∧ S 21 c = S 21 d
    by_cases e : pr c d = pr a b
    · rw [e, upd_a] at h4
      obtain ⟨-, -, f3, f4⟩ := hf h4
      have hc := hcd.1
      have hd := hcd.2.1
      have : (c = a ∧ d = b) ∨ (c = b ∧ d = a) := by unfold pr at e; omega
      rcases this with ⟨rfl, rfl⟩ | ⟨rfl, rfl⟩
      · exact ⟨f3, f4⟩
      · exact ⟨f3.symm, f4.symm⟩
    · rw [upd_b e] at h4
      exact q6 c d ⟨hcd.1, hcd.2.1, hcd.2.2.1, h4⟩
  · replace h0 : 0 < upd (S 69) (pr a b) x q := h0
    show 0 ≤ upd (S 69) (pr a b) x q - upd (S 70) (pr a b) 0 q
    by_cases e : q = pr a b
    · rw [e, upd_a, upd_a, Int32.sub_zero]; exact hx
    · rw [upd_b e] at h0
      rw [upd_b e, upd_b e]
      exact q7 q hq h0
theorem sim_tie (S : Nat → Nat → Int32) (a1 a2 a3 : Int32) (h : Rel S) : ∃ (q : Nat ⊕ (Int32 × Int32 × (Nat → Int32) × Int32 × (Nat → Int32) × (Nat → Int32) × (Nat → Int32) × (Nat → Int32))) (q' : Int32 × Int32 × (Nat → Int32) × (Nat → Int32) × (Nat → Int32)), jX6_tie (S 0 0) (S 23 0) (S 12) (S 13) (S 19) (S 20) (S 21) (S 22) (S 31 0) (S 27) (S 28) (S 29) (S 30) a1 a2 a3 = some q ∧ jX7_tie (S 60 0) (S 65 0) (S 66) (S 68) (S 69) (S 70) (S 72) a1 a2 a3 = some q' ∧ q'.2.1 = sel q kcL_tie (fun _ => 0) ∧ (∀ k, q = .inl k → k ∈ [3, 1, 2] ∧ Rel (up (up (up (up S 60 (fun _ => q'.2.1)) 69 q'.2.2.1) 70 q'.2.2.2.1) 72 q'.2.2.2.2)) ∧ (∀ u, q = .inr u → q'.1 = u.1 ∧ Rel (up (up (up (up (up (up (up (up (up (up (up S 0 (fun _ => u.2.1)) 22 u.2.2.1) 31 (fun _ => u.2.2.2.1)) 27 u.2.2.2.2.1) 28 u.2.2.2.2.2.1) 29 u.2.2.2.2.2.2.1) 30 u.2.2.2.2.2.2.2) 60 (fun _ => q'.2.1)) 69 q'.2.2.1) 70 q'.2.2.2.1) 72 q'.2.2.2.2)) := by
  have fail : ∀ c : Nat, ∀ C : Int32, (c = 3 ∨ c = 1 ∨ c = 2) → kcL_tie c = C → jX6_tie (S 0 0) (S 23 0) (S 12) (S 13) (S 19) (S 20) (S 21) (S 22) (S 31 0) (S 27) (S 28) (S 29) (S 30) a1 a2 a3 = some (.inl c) → jX7_tie (S 60 0) (S 65 0) (S 66) (S 68) (S 69) (S 70) (S 72) a1 a2 a3 = some (0, C, S 69, S 70, S 72) →
      ∃ (q : Nat ⊕ (Int32 × Int32 × (Nat → Int32) × Int32 × (Nat → Int32) × (Nat → Int32) × (Nat → Int32) × (Nat → Int32))) (q' : Int32 × Int32 × (Nat → Int32) × (Nat → Int32) × (Nat → Int32)), jX6_tie (S 0 0) (S 23 0) (S 12) (S 13) (S 19) (S 20) (S 21) (S 22) (S 31 0) (S 27) (S 28) (S 29) (S 30) a1 a2 a3 = some q ∧ jX7_tie (S 60 0) (S 65 0) (S 66) (S 68) (S 69) (S 70) (S 72) a1 a2 a3 = some q' ∧ q'.2.1 = sel q kcL_tie (fun _ => 0) ∧ (∀ k, q = .inl k → k ∈ [3, 1, 2] ∧ Rel (up (up (up (up S 60 (fun _ => q'.2.1)) 69 q'.2.2.1) 70 q'.2.2.2.1) 72 q'.2.2.2.2)) ∧ (∀ u, q = .inr u → q'.1 = u.1 ∧ Rel (up (up (up (up (up (up (up (up (up (up (up S 0 (fun _ => u.2.1)) 22 u.2.2.1) 31 (fun _ => u.2.2.2.1)) 27 u.2.2.2.2.1) 28 u.2.2.2.2.2.1) 29 u.2.2.2.2.2.2.1) 30 u.2.2.2.2.2.2.2) 60 (fun _ => q'.2.1)) 69 q'.2.2.1) 70 q'.2.2.2.1) 72 q'.2.2.2.2)) := fun c C hc hC e e' => by
    refine ⟨.inl c, (0, C, S 69, S 70, S 72), e, e', hC.symm, fun k hk => ⟨by cases hk; rcases hc with rfl | rfl | rfl <;> simp, ?_⟩, fun u hu => (by cases hu)⟩
    exact Rel_upS (k := 72) (f := S 72) rfl (Rel_upS (k := 70) (f := S 70) rfl (Rel_upS (k := 69) (f := S 69) rfl (Rel_up (k := 60) (f := fun _ => C) rfl h)))
  obtain ⟨n, k, w, m, r, κ, hB⟩ := h
  have hC := RB_CR hB
  obtain ⟨⟨s1, s2, s3, s4, s5, s6, s7⟩, h2, ⟨t1, t2, t3, t4, t5⟩, hW, hR, hS, hP, hQ, hc, hz, hK⟩ := hB
  have hn := hW.1
  have hm := hQ.1
  have s1' : S 23 0 = nI n := s1
  have s2' : S 65 0 = nI n := s2
  have s7' : S 31 0 = nI m := s7
  have t2' : S 0 0 = nI r := t2
  have t3' : rd (S 72) 1 = nI r := t3
  rcases a_bar (n := n) (by omega) a1 with ⟨a, ha, rfl, e1, e2⟩ | ⟨e1, e2⟩
  rotate_left
  · exact fail 3 1 (by simp) rfl (by unfold jX6_tie; rw [s1', e1, bnd_n, if_pos rfl]) (by unfold jX7_tie; rw [s2', e2, bnd_n, if_pos rfl, r_fail1, bnd_n])
  rcases a_bar (n := n) (by omega) a2 with ⟨b, hb, rfl, e3, e4⟩ | ⟨e3, e4⟩
  rotate_left
  · exact fail 3 1 (by simp) rfl (by unfold jX6_tie; rw [s1', e1, bnd_n, if_neg one_ne, e3, bnd_n, if_pos rfl]) (by unfold jX7_tie; rw [s2', e2, bnd_n, if_neg one_ne, e4, bnd_n, if_pos rfl, r_fail1, bnd_n])
  by_cases hab : a = b
  · subst hab
    exact fail 1 2 (by simp) rfl (by unfold jX6_tie; rw [s1', e1, bnd_n, if_neg one_ne, bnd_n, if_neg one_ne, if_pos rfl]) (by unfold jX7_tie; rw [s2', e2, bnd_n, if_neg one_ne, bnd_n, if_neg one_ne, if_pos rfl, r_fail1, bnd_n])
  have hne : ¬ nI a = nI b := fun z => hab ((nI_eq (by omega) (by omega)).mp z)
  by_cases c1 : a3 < 1
  · exact fail 1 2 (by simp) rfl (by unfold jX6_tie; rw [s1', e1, bnd_n, if_neg one_ne, e3, bnd_n, if_neg one_ne, if_neg hne, if_pos c1]) (by unfold jX7_tie; rw [s2', e2, bnd_n, if_neg one_ne, e4, bnd_n, if_neg one_ne, if_neg hne, r_isIn, if_pos c1, bnd_n, if_pos rfl, r_fail1, bnd_n])
  by_cases c2 : a3 ≤ 50
  rotate_left
  · exact fail 1 2 (by simp) rfl (by unfold jX6_tie; rw [s1', e1, bnd_n, if_neg one_ne, e3, bnd_n, if_neg one_ne, if_neg hne, if_neg c1, if_neg c2]) (by unfold jX7_tie; rw [s2', e2, bnd_n, if_neg one_ne, e4, bnd_n, if_neg one_ne, if_neg hne, r_isIn, if_neg c1, if_pos (Int32.not_le.mp c2), bnd_n, if_pos rfl, r_fail1, bnd_n])
  have c2' : ¬ 50 < a3 := Int32.not_lt.mpr c2
  have hcan := c_canBe (co := S 12) (ro := S 13) (st := S 19) (x := S 20) (y := S 21) hn ha hb
  have hbes := r_beside (co := S 12) (ro := S 13) (fx := S 66) hn ha hb hc
  have fa : jX7_floats (S 68) (nI a) = some (if S 19 a = 0 then 1 else 0) := by rw [r_floats (by omega), (hR.1 a ha).2.2.2.2.1]
  have fb : jX7_floats (S 68) (nI b) = some (if S 19 b = 0 then 1 else 0) := by rw [r_floats (by omega), (hR.1 b hb).2.2.2.2.1]
  have xa : jX7_ba (S 68) (nI a) 3 = some (S 20 a) := by rw [r_ba3 (by omega), (hR.1 a ha).2.2.2.2.2.1]
  have xb : jX7_ba (S 68) (nI b) 3 = some (S 20 b) := by rw [r_ba3 (by omega), (hR.1 b hb).2.2.2.2.2.1]
  have ya : jX7_ba (S 68) (nI a) 4 = some (S 21 a) := by rw [r_ba4 (by omega), (hR.1 a ha).2.2.2.2.2.2]
  have yb : jX7_ba (S 68) (nI b) 4 = some (S 21 b) := by rw [r_ba4 (by omega), (hR.1 b hb).2.2.2.2.2.2]
  have cfail : ¬ (S 19 a = 0 ∧ S 19 b = 0 ∧ mabs (S 12 a - S 12 b) + mabs (S 13 a - S 13 b) = 1 ∧ S 20 a = S 20 b ∧ S 21 a = S 21 b) → jX6_tie (S 0 0) (S 23 0) (S 12) (S 13) (S 19) (S 20) (S 21) (S 22) (S 31 0) (S 27) (S 28) (S 29) (S 30) (nI a) (nI b) a3 = some (.inl 2) := fun hno => by
    unfold jX6_tie
    rw [s1', e1, bnd_n, if_neg one_ne, e3, bnd_n, if_neg one_ne, if_neg hne, if_neg c1, if_pos c2, hcan, bnd_n, if_neg hno, if_pos rfl]
  by_cases f1 : S 19 a = 0
  rotate_left
  · exact fail 2 3 (by simp) rfl (cfail fun z => f1 z.1) (by unfold jX7_tie; rw [s2', e2, bnd_n, if_neg one_ne, e4, bnd_n, if_neg one_ne, if_neg hne, r_isIn, if_neg c1, if_neg c2', bnd_n, if_neg one_ne, fa, bnd_n, if_neg f1, if_pos rfl, r_fail1, bnd_n])
  by_cases f2 : S 19 b = 0
  rotate_left
  · exact fail 2 3 (by simp) rfl (cfail fun z => f2 z.2.1) (by unfold jX7_tie; rw [s2', e2, bnd_n, if_neg one_ne, e4, bnd_n, if_neg one_ne, if_neg hne, r_isIn, if_neg c1, if_neg c2', bnd_n, if_neg one_ne, fa, bnd_n, if_pos f1, if_neg one_ne, fb, bnd_n, if_neg f2, if_pos rfl, r_fail1, bnd_n])
  by_cases f3 : mabs (S 12 a - S 12 b) + mabs (S 13 a - S 13 b) = 1
  rotate_left
  · exact fail 2 3 (by simp) rfl (cfail fun z => f3 z.2.2.1) (by unfold jX7_tie; rw [s2', e2, bnd_n, if_neg one_ne, e4, bnd_n, if_neg one_ne, if_neg hne, r_isIn, if_neg c1, if_neg c2', bnd_n, if_neg one_ne, fa, bnd_n, if_pos f1, if_neg one_ne, fb, bnd_n, if_pos f2, if_neg one_ne, hbes, bnd_n, if_neg f3, if_pos rfl, r_fail1, bnd_n])
  by_cases f4 : S 20 a = S 20 b
  rotate_left
  · exact fail 2 3 (by simp) rfl (cfail fun z => f4 z.2.2.2.1) (by unfold jX7_tie; rw [s2', e2, bnd_n, if_neg one_ne, e4, bnd_n, if_neg one_ne, if_neg hne, r_isIn, if_neg c1, if_neg c2', bnd_n, if_neg one_ne, fa, bnd_n, if_pos f1, if_neg one_ne, fb, bnd_n, if_pos f2, if_neg one_ne, hbes, bnd_n, if_pos f3, if_neg one_ne, xa, bnd_n, xb, bnd_n, if_neg f4, r_fail1, bnd_n])
  by_cases f5 : S 21 a = S 21 b
  rotate_left
  · exact fail 2 3 (by simp) rfl (cfail fun z => f5 z.2.2.2.2) (by unfold jX7_tie; rw [s2', e2, bnd_n, if_neg one_ne, e4, bnd_n, if_neg one_ne, if_neg hne, r_isIn, if_neg c1, if_neg c2', bnd_n, if_neg one_ne, fa, bnd_n, if_pos f1, if_neg one_ne, fb, bnd_n, if_pos f2, if_neg one_ne, hbes, bnd_n, if_pos f3, if_neg one_ne, xa, bnd_n, xb, bnd_n, if_pos f4, ya, bnd_n, yb, bnd_n, if_neg f5, r_fail1, bnd_n])
  have hcan' : jX0_canBeTied (nI n) (S 12) (S 13) (S 19) (S 20) (S 21) (nI a) (nI b) = some 1 := by rw [hcan, if_pos ⟨f1, f2, f3, f4, f5⟩]
  by_cases hr : r = 0
  · subst hr
    exact fail 2 3 (by simp) rfl (by unfold jX6_tie; rw [s1', e1, bnd_n, if_neg one_ne, e3, bnd_n, if_neg one_ne, if_neg hne, if_neg c1, if_pos c2, hcan', bnd_n, if_neg one_ne, t2', if_neg (by decide)]) (by unfold jX7_tie; rw [s2', e2, bnd_n, if_neg one_ne, e4, bnd_n, if_neg one_ne, if_neg hne, r_isIn, if_neg c1, if_neg c2', bnd_n, if_neg one_ne, fa, bnd_n, if_pos f1, if_neg one_ne, fb, bnd_n, if_pos f2, if_neg one_ne, hbes, bnd_n, if_pos f3, if_neg one_ne, xa, bnd_n, xb, bnd_n, if_pos f4, ya, bnd_n, yb, bnd_n, if_pos f5, chk31, t3', if_pos (by decide), r_fail1, bnd_n])
  obtain ⟨r, rfl⟩ : ∃ r', r = r' + 1 := ⟨r - 1, by omega⟩
  obtain ⟨st, hst, rfl⟩ := nI_of (x := a3) (fun z => c1 (Int32.lt_trans z (by decide)))
  have hst1 : 1 ≤ st := by
    rcases Nat.lt_or_ge st 1 with z | z
    · exact absurd ((nI_ltI (b := 1) hst (by omega)).mpr z) c1
    · exact z
  have hst0 : (0 : Int32) < nI st := (nI_ltI (a := 0) (by omega) hst).mpr hst1
  have hp := pr_lt (a := a) (b := b) (by omega) (by omega)
  have one1 : (1 : Int32).toNatClampNeg = 1 := by decide
  have g2 : jX7_tie (S 60 0) (S 65 0) (S 66) (S 68) (S 69) (S 70) (S 72) (nI a) (nI b) (nI st) = some (nI r, 0, upd (S 69) (pr a b) (nI st), upd (S 70) (pr a b) 0, upd (S 72) 1 (nI r)) := by
    unfold jX7_tie
    rw [s2', e2, bnd_n, if_neg one_ne, e4, bnd_n, if_neg one_ne, if_neg hne, r_isIn, if_neg c1, if_neg c2', bnd_n, if_neg one_ne, fa, bnd_n, if_pos f1, if_neg one_ne, fb, bnd_n, if_pos f2, if_neg one_ne, hbes, bnd_n, if_pos f3, if_neg one_ne, xa, bnd_n, xb, bnd_n, if_pos f4, ya, bnd_n, yb, bnd_n, if_pos f5, chk31, t3', if_neg (show ¬ nI (r + 1) = 0 from fun z => by have := (nI_eq (b := 0) (by omega) (by omega)).mp z; omega), r_pair (by omega) (by omega), bnd_n, chk_n hp (by omega), bnd_n, chk_n hp (by omega), chk31, chk31, chk31, wr_n (by omega), wr_n (by omega), nI_pred]
    unfold rd wr
    rw [one1, upd_a]
  -- the list
  have hmk : ∃ m' qf qs qt qu κ', jX2_make (nI m) (S 27) (S 28) (S 29) (S 30) (nI (min a b)) (nI (max a b)) (nI st) = some (nI m', qf, qs, qt, qu) ∧ m' + r ≤ 10 ∧ QOK m' qf qs qt qu κ' (upd (S 69) (pr a b) (nI st)) (upd (S 70) (pr a b) 0) := by
    have hpm : pr (min a b) (max a b) = pr a b := by unfold pr; rw [show min (min a b) (max a b) = min a b by omega, show max (min a b) (max a b) = max a b by omega]
    obtain ⟨y1, y2⟩ := c_find hQ (by omega : min a b < 24) (by omega : max a b < 24)
    rw [hpm] at y1 y2
    unfold jX2_make
    by_cases h0 : 0 < S 69 (pr a b)
    · obtain ⟨i, hi, hki, e⟩ := y1 h0
      rw [show jX2_find (nI m) (S 27) (S 28) (nI (min a b)) (nI (max a b)) = some (nI i) from e, bnd_n, if_neg (n_neg (by omega)), c_renew (by omega), bnd_n]
      have := QOK_renew (x := nI st) hQ hi hst0
      rw [hki] at this
      exact ⟨m, _, _, _, _, κ, rfl, by omega, this⟩
    · rw [show jX2_find (nI m) (S 27) (S 28) (nI (min a b)) (nI (max a b)) = some (-1) from y2 h0, bnd_n, if_pos m1_neg, if_neg (show ¬ (48 : Int32) ≤ nI m from fun z => by have := (nI_leI (a := 48) (by omega) (by omega)).mp z; omega)]
      have e24 : 24 * min a b + max a b = pr a b := rfl
      obtain ⟨qf, qs, qt, qu, κ', e, Q'⟩ := c_insert (x := nI st) hQ (by omega : m < 48) (by omega : min a b < max a b) (by omega : max a b < 24) (by rw [e24]; exact h0) hst0
      rw [e24] at Q'
      rw [show jX2_insert (nI m) (S 27) (S 28) (S 29) (S 30) (nI (min a b)) (nI (max a b)) (nI st) = some (nI (m + 1), qf, qs, qt, qu) from e, bnd_n]
      exact ⟨m + 1, _, _, _, _, κ', rfl, by omega, Q'⟩
  obtain ⟨m', qf, qs, qt, qu, κ', g3, hm', Q'⟩ := hmk
  have hW' : WA n k (setA S (pr a b) (nI st)) := WA_set hW ha hb hab (n_nonneg hst) (fun _ => ⟨f1, f2, f4, f5⟩)
  obtain ⟨p', g4, P'⟩ := c_findPieces (p := S 22) (st := S 19) hn Q' hW'.2.2.2.2.1
  have g1 : jX6_tie (S 0 0) (S 23 0) (S 12) (S 13) (S 19) (S 20) (S 21) (S 22) (S 31 0) (S 27) (S 28) (S 29) (S 30) (nI a) (nI b) (nI st) = some (.inr (nI r, nI r, p', nI m', qf, qs, qt, qu)) := by
    unfold jX6_tie
    rw [s1', e1, bnd_n, if_neg one_ne, e3, bnd_n, if_neg one_ne, if_neg hne, if_neg c1, if_pos c2, hcan', bnd_n, if_neg one_ne, t2', if_pos (show (0 : Int32) < nI (r + 1) from (nI_ltI (a := 0) (by omega) (by omega)).mpr (by omega)), mmin_n (by omega) (by omega), mmax_n (by omega) (by omega), s7', g3, bnd_n]
    dsimp only
    rw [g4, bnd_n, nI_pred]
  refine ⟨_, _, g1, g2, rfl, fun k hk => (by cases hk), fun u hu => ?_⟩
  cases hu
  refine ⟨rfl, n, k, w, m', r, κ', RelB_of (A := setA S (pr a b) (nI st)) hW' ?_ ?_ P' Q' ⟨s1, s2, s3, s4, s5, s6, rfl⟩ h2 ⟨?_, rfl, ?_, ?_, by omega⟩ hS hc hK⟩
  · exact ⟨hR.1, fun _ _ => rfl, fun _ _ _ => rfl, hR.2.2.2⟩
  · exact ⟨fun _ _ => ⟨rfl, rfl, rfl, rfl, rfl, rfl, rfl, rfl⟩, fun _ _ => ⟨rfl, rfl⟩, hz⟩
  · show S 10 0 = upd (S 72) 1 (nI r) 0
    rw [upd_b (by omega)]; exact t1
  · show upd (S 72) 1 (nI r) 1 = nI r
    rw [upd_a]
  · show S 11 0 = upd (S 72) 1 (nI r) 2
    rw [upd_b (by omega)]; exact t4
theorem sim_cut (S : Nat → Nat → Int32) (a1 a2 : Int32) (h : Rel S) : ∃ (q : Nat ⊕ (Int32 × Int32 × (Nat → Int32) × Int32 × (Nat → Int32) × (Nat → Int32) × (Nat → Int32) × (Nat → Int32))) (q' : Int32 × Int32 × (Nat → Int32) × (Nat → Int32) × (Nat → Int32)), jX6_cut (S 0 0) (S 23 0) (S 19) (S 22) (S 31 0) (S 27) (S 28) (S 29) (S 30) a1 a2 = some q ∧ jX7_cut (S 60 0) (S 65 0) (S 69) (S 70) (S 72) a1 a2 = some q' ∧ q'.2.1 = sel q kcL_cut (fun _ => 0) ∧ (∀ k, q = .inl k → k ∈ [3, 2] ∧ Rel (up (up (up (up S 60 (fun _ => q'.2.1)) 69 q'.2.2.1) 70 q'.2.2.2.1) 72 q'.2.2.2.2)) ∧ (∀ u, q = .inr u → q'.1 = u.1 ∧ Rel (up (up (up (up (up (up (up (up (up (up (up S 0 (fun _ => u.2.1)) 22 u.2.2.1) 31 (fun _ => u.2.2.2.1)) 27 u.2.2.2.2.1) 28 u.2.2.2.2.2.1) 29 u.2.2.2.2.2.2.1) 30 u.2.2.2.2.2.2.2) 60 (fun _ => q'.2.1)) 69 q'.2.2.1) 70 q'.2.2.2.1) 72 q'.2.2.2.2)) := by
  have failR : ∀ C : Int32, Rel (up (up (up (up S 60 (fun _ => C)) 69 (S 69)) 70 (S 70)) 72 (S 72)) := fun C => Rel_upS (k := 72) (f := S 72) rfl (Rel_upS (k := 70) (f := S 70) rfl (Rel_upS (k := 69) (f := S 69) rfl (Rel_up (k := 60) (f := fun _ => C) rfl h)))
  obtain ⟨n, k, w, m, r, κ, hB⟩ := h
  have hC := RB_CR hB
  obtain ⟨⟨s1, s2, s3, s4, s5, s6, s7⟩, h2, ⟨t1, t2, t3, t4, t5⟩, hW, hR, hS, hP, hQ, hc, hz, hK⟩ := hB
  have hn := hW.1
  have hm := hQ.1
  have s1' : S 23 0 = nI n := s1
  have s2' : S 65 0 = nI n := s2
  have s7' : S 31 0 = nI m := s7
  have t2' : S 0 0 = nI r := t2
  have t3' : rd (S 72) 1 = nI r := t3
  rcases a_bar (n := n) (by omega) a1 with ⟨a, ha, rfl, e1, e2⟩ | ⟨e1, e2⟩
  rotate_left
  · exact ⟨.inl 3, (0, 1, S 69, S 70, S 72), by unfold jX6_cut; rw [s1', e1, bnd_n, if_pos rfl], by unfold jX7_cut; rw [s2', e2, bnd_n, if_pos rfl, r_fail1, bnd_n], rfl, fun k hk => ⟨by cases hk; simp, failR _⟩, fun u hu => (by cases hu)⟩
  rcases a_bar (n := n) (by omega) a2 with ⟨b, hb, rfl, e3, e4⟩ | ⟨e3, e4⟩
  rotate_left
  · exact ⟨.inl 3, (0, 1, S 69, S 70, S 72), by unfold jX6_cut; rw [s1', e1, bnd_n, if_neg one_ne, e3, bnd_n, if_pos rfl], by unfold jX7_cut; rw [s2', e2, bnd_n, if_neg one_ne, e4, bnd_n, if_pos rfl, r_fail1, bnd_n], rfl, fun k hk => ⟨by cases hk; simp, failR _⟩, fun u hu => (by cases hu)⟩
  have hp := pr_lt (a := a) (b := b) (by omega) (by omega)
  obtain ⟨y1, y2⟩ := c_find hQ (by omega : a < 24) (by omega : b < 24)
  by_cases h0 : 0 < S 69 (pr a b)
  rotate_left
  · exact ⟨.inl 2, (0, 2, S 69, S 70, S 72), by unfold jX6_cut; rw [s1', e1, bnd_n, if_neg one_ne, e3, bnd_n, if_neg one_ne, s7', show jX2_find (nI m) (S 27) (S 28) (nI a) (nI b) = some (-1) from y2 h0, bnd_n, if_neg (by decide)], by unfold jX7_cut; rw [s2', e2, bnd_n, if_neg one_ne, e4, bnd_n, if_neg one_ne, r_tied (by omega) (by omega), bnd_n, if_neg h0, if_pos rfl, r_fail1, bnd_n], rfl, fun k hk => ⟨by cases hk; simp, failR _⟩, fun u hu => (by cases hu)⟩
  obtain ⟨i, hi, hki, e5⟩ := y1 h0
  have hab : a ≠ b := fun z => by
    obtain ⟨c', d', k1, k2, k3, -⟩ := hW.2.2.2.2.1 _ hp (i_pos_ne h0)
    rw [z] at k1
    unfold pr at k1
    omega
  have one1 : (1 : Int32).toNatClampNeg = 1 := by decide
  have er : mmin 40 (nI r + 1) = nI (r + 1) := by
    rw [nI_1, show (40 : Int32) = nI 40 from rfl, mmin_n (by omega) (by omega)]; congr 1; omega
  have g2 : jX7_cut (S 60 0) (S 65 0) (S 69) (S 70) (S 72) (nI a) (nI b) = some (nI (r + 1), 0, upd (S 69) (pr a b) 0, upd (S 70) (pr a b) 0, upd (S 72) 1 (nI (r + 1))) := by
    unfold jX7_cut
    rw [s2', e2, bnd_n, if_neg one_ne, e4, bnd_n, if_neg one_ne, r_tied (by omega) (by omega), bnd_n, if_pos h0, if_neg one_ne, r_untie (by omega) (by omega), bnd_n, chk31, chk31, chk31, t3', er]
    unfold rd wr
    rw [one1, upd_a]
  have hW' : WA n k (setA S (pr a b) 0) := WA_set hW ha hb hab (by decide) (fun z => absurd z (by decide))
  obtain ⟨m', qf, qs, qt, qu, κ', g3, hm', Q'⟩ := QOK_sweep (T' := upd (S 69) (pr a b) 0) (U' := upd (S 70) (pr a b) 0) (t1 := upd (S 29) i 0) (u1 := S 30) hQ (fun j hj => by
      obtain ⟨-, -, q3, -⟩ := hQ.2.2 j hj
      by_cases q : j = i
      · rw [q, upd_a, hki, upd_a]
      · rw [upd_b q, upd_b (fun z => q (Q_inj hQ hj hi (by rw [z, hki])))]; exact q3) (fun j hj h0 => by
      obtain ⟨-, -, -, q4⟩ := hQ.2.2 j hj
      by_cases q : κ j = pr a b
      · rw [q, upd_a] at h0; exact absurd h0 (by decide)
      · rw [upd_b q]; exact q4) (fun q hq h1 => by
      by_cases z : q = pr a b
      · rw [z, upd_a] at h1; exact absurd h1 (by decide)
      · rw [upd_b z] at h1; exact h1)
  have hlt : m' < m := by
    rw [enu_tot hQ.2.1, enu_tot Q'.2.1]
    refine ns_lt (k := pr a b) (fun j hj => ?_) hp ?_
    · by_cases q : j = pr a b
      · rw [q, upd_a, if_neg (by decide)]; omega
      · rw [upd_b q]; exact Nat.le_refl _
    · rw [upd_a, if_neg (by decide), if_pos (decide_eq_true h0)]; omega
  obtain ⟨p', g4, P'⟩ := c_findPieces (p := S 22) (st := S 19) hn Q' hW'.2.2.2.2.1
  have g1 : jX6_cut (S 0 0) (S 23 0) (S 19) (S 22) (S 31 0) (S 27) (S 28) (S 29) (S 30) (nI a) (nI b) = some (.inr (nI (r + 1), nI (r + 1), p', nI m', qf, qs, qt, qu)) := by
    unfold jX6_cut
    rw [s1', e1, bnd_n, if_neg one_ne, e3, bnd_n, if_neg one_ne, s7', show jX2_find (nI m) (S 27) (S 28) (nI a) (nI b) = some (nI i) from e5, bnd_n, if_pos (n_nonneg (by omega)), c_undo (by omega), bnd_n, show jX2_sweep (nI m) (S 27) (S 28) (upd (S 29) i 0) (S 30) = some (nI m', qf, qs, qt, qu) from g3, bnd_n]
    dsimp only
    rw [g4, bnd_n, t2', er]
  refine ⟨_, _, g1, g2, rfl, fun k hk => (by cases hk), fun u hu => ?_⟩
  cases hu
  refine ⟨rfl, n, k, w, m', r + 1, κ', RelB_of (A := setA S (pr a b) 0) hW' ?_ ?_ P' Q' ⟨s1, s2, s3, s4, s5, s6, rfl⟩ h2 ⟨?_, rfl, ?_, ?_, by omega⟩ hS hc hK⟩
  · exact ⟨hR.1, fun _ _ => rfl, fun _ _ _ => rfl, hR.2.2.2⟩
  · exact ⟨fun _ _ => ⟨rfl, rfl, rfl, rfl, rfl, rfl, rfl, rfl⟩, fun _ _ => ⟨rfl, rfl⟩, hz⟩
  · show S 10 0 = upd (S 72) 1 (nI (r + 1)) 0
    rw [upd_b (by omega)]; exact t1
  · show upd (S 72) 1 (nI (r + 1)) 1 = nI (r + 1)
    rw [upd_a]
  · show S 11 0 = upd (S 72) 1 (nI (r + 1)) 2
    rw [upd_b (by omega)]; exact t4
