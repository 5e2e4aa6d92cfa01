/-! the calls that change something: wind, water, goods, bailing, castaways -/
theorem Rel_upS {S : Nat → Nat → Int32} {k : Nat} {f : Nat → Int32} (hf : f = S k) (h : Rel S) : Rel (up S k f) := by rw [up_same hf]; exact h
theorem a_flow (a : Int32) : (jX6_isFlow a = some 1 ∧ jX7_isIn a (-2) 2 = some 1) ∨ (jX6_isFlow a = some 0 ∧ jX7_isIn a (-2) 2 = some 0) := by
  unfold jX6_isFlow
  rw [r_isIn]
  by_cases h1 : a < -2
  · rw [if_pos h1, if_pos h1]; exact Or.inr ⟨chkZ_a, rfl⟩
  · rw [if_neg h1, if_neg h1]
    by_cases h2 : 2 < a
    · rw [if_pos h2, if_pos h2]; exact Or.inr ⟨chkZ_a, rfl⟩
    · rw [if_neg h2, if_neg h2]; exact Or.inl ⟨chkZ_b, rfl⟩
theorem sim_setWind (S : Nat → Nat → Int32) (a1 a2 : Int32) (h : Rel S) : ∃ (q : Nat ⊕ (Int32 × Int32 × Int32)) (q' : Int32 × Int32 × Int32 × Int32), jX6_setWind (S 6 0) (S 7 0) a1 a2 = some q ∧ jX7_setWind (S 60 0) (S 63 0) (S 64 0) a1 a2 = some q' ∧ q'.2.1 = sel q kcL_setWind (fun _ => 0) ∧ (∀ k, q = .inl k → k ∈ [1] ∧ Rel (up (up (up S 60 (fun _ => q'.2.1)) 63 (fun _ => q'.2.2.1)) 64 (fun _ => q'.2.2.2))) ∧ (∀ u, q = .inr u → q'.1 = u.1 ∧ Rel (up (up (up (up (up S 6 (fun _ => u.2.1)) 7 (fun _ => u.2.2)) 60 (fun _ => q'.2.1)) 63 (fun _ => q'.2.2.1)) 64 (fun _ => q'.2.2.2))) := by
  have fail : ∀ x, Rel (up (up (up S 60 (fun _ => x)) 63 (fun _ => S 63 0)) 64 (fun _ => S 64 0)) := fun x => Rel_up0 (k := 64) (by simp) (Rel_up0 (k := 63) (by simp) (Rel_up (k := 60) (f := fun _ => x) rfl h))
  obtain ⟨n, k, w, m, r, κ, hB⟩ := h
  have hC := RB_CR hB
  obtain ⟨h1, ⟨w1, w2⟩, h3, hW, hR, hS, hP, hQ, hc, hz, hK⟩ := hB
  unfold jX6_setWind jX7_setWind
  rcases a_flow a1 with ⟨e1, e2⟩ | ⟨e1, e2⟩
  · rcases a_flow a2 with ⟨e3, e4⟩ | ⟨e3, e4⟩
    · rw [e1, bnd_n, if_neg one_ne, e2, bnd_n, if_neg one_ne, e3, bnd_n, if_neg one_ne, e4, bnd_n, if_neg one_ne]
      refine ⟨_, _, rfl, rfl, rfl, fun k hk => (by cases hk), fun u hu => ?_⟩
      cases hu
      refine ⟨?_, n, k, w, m, r, κ, RelB_of (A := S) hW hR hC hP hQ h1 ⟨rfl, rfl⟩ h3 hS hc hK⟩
      show 5 * (S 63 0 + 2) + S 64 0 + 2 = 5 * (S 6 0 + 2) + S 7 0 + 2
      rw [show S 6 0 = S 63 0 from w1, show S 7 0 = S 64 0 from w2]
    · rw [e1, bnd_n, if_neg one_ne, e2, bnd_n, if_neg one_ne, e3, bnd_n, if_pos rfl, e4, bnd_n, if_pos rfl]
      exact ⟨_, _, rfl, rfl, rfl, fun k hk => ⟨by cases hk; simp, fail _⟩, fun u hu => (by cases hu)⟩
  · rw [e1, bnd_n, if_pos rfl, e2, bnd_n, if_pos rfl]
    exact ⟨_, _, rfl, rfl, rfl, fun k hk => ⟨by cases hk; simp, fail _⟩, fun u hu => (by cases hu)⟩
theorem wA_ext {Wt Wt' : Nat → Int32} {x y : Nat} : ∀ {w : Nat}, (∀ q, q < 7 * w → Wt' q = Wt q) → wA Wt' x y w = wA Wt x y w
  | 0, _ => rfl
  | w + 1, e => by
    rw [wA, wA, wA_ext (w := w) (fun q hq => e q (by omega))]
    have : cov Wt' w x y = cov Wt w x y := by
      unfold cov
      rw [e (7 * w) (by omega), e (7 * w + 1) (by omega), e (7 * w + 2) (by omega), e (7 * w + 3) (by omega)]
    rw [this]
theorem cpy_n {f g : Nat → Int32} {d c : Nat} (hd : d < 2 ^ 31) (hc : c < 2 ^ 31) : cpy f g 0 (nI d) (nI c) = fun q => if d ≤ q ∧ q < d + c then f (q - d) else g q := by
  funext q
  unfold cpy
  rw [clamp_n hd, clamp_n hc, show (0 : Int32).toNatClampNeg = 0 from rfl]
  by_cases h : d ≤ q ∧ q < d + c
  · rw [if_pos h, pk_cpy_in h.1 h.2]; congr 1; omega
  · rw [if_neg h, pk_cpy_out (by omega)]
theorem sim_addWater (S : Nat → Nat → Int32) (a1 a2 a3 a4 a5 a6 a7 : Int32) (h : Rel S) : ∃ (q : Nat ⊕ (Int32 × Int32 × (Nat → Int32) × (Nat → Int32) × (Nat → Int32) × (Nat → Int32))) (q' : Int32 × Int32 × Int32 × (Nat → Int32)), jX6_addWater (S 5 0) (S 1) (S 2) (S 3) (S 4) a1 a2 a3 a4 a5 a6 a7 = some q ∧ jX7_addWater (S 60 0) (S 61 0) (S 62) a1 a2 a3 a4 a5 a6 a7 = some q' ∧ q'.2.1 = sel q kcL_addWater (fun _ => 0) ∧ (∀ k, q = .inl k → k ∈ [1, 2] ∧ Rel (up (up (up S 60 (fun _ => q'.2.1)) 61 (fun _ => q'.2.2.1)) 62 q'.2.2.2)) ∧ (∀ u, q = .inr u → q'.1 = u.1 ∧ Rel (up (up (up (up (up (up (up (up S 5 (fun _ => u.2.1)) 1 u.2.2.1) 2 u.2.2.2.1) 3 u.2.2.2.2.1) 4 u.2.2.2.2.2) 60 (fun _ => q'.2.1)) 61 (fun _ => q'.2.2.1)) 62 q'.2.2.2)) := by
  have fail : ∀ c : Nat, ∀ C : Int32, (c = 1 ∨ c = 2) → kcL_addWater c = C → ∀ (o : Option (Nat ⊕ (Int32 × Int32 × (Nat → Int32) × (Nat → Int32) × (Nat → Int32) × (Nat → Int32)))) (o' : Option (Int32 × Int32 × Int32 × (Nat → Int32))), o = some (.inl c) → o' = some (0, C, S 61 0, S 62) →
      ∃ (q : Nat ⊕ (Int32 × Int32 × (Nat → Int32) × (Nat → Int32) × (Nat → Int32) × (Nat → Int32))) (q' : Int32 × Int32 × Int32 × (Nat → Int32)), o = some q ∧ o' = some q' ∧ q'.2.1 = sel q kcL_addWater (fun _ => 0) ∧ (∀ k, q = .inl k → k ∈ [1, 2] ∧ Rel (up (up (up S 60 (fun _ => q'.2.1)) 61 (fun _ => q'.2.2.1)) 62 q'.2.2.2)) ∧ (∀ u, q = .inr u → q'.1 = u.1 ∧ Rel (up (up (up (up (up (up (up (up S 5 (fun _ => u.2.1)) 1 u.2.2.1) 2 u.2.2.2.1) 3 u.2.2.2.2.1) 4 u.2.2.2.2.2) 60 (fun _ => q'.2.1)) 61 (fun _ => q'.2.2.1)) 62 q'.2.2.2)) := fun c C hc hC o o' h1 h2 => by
    refine ⟨_, _, h1, h2, hC.symm, fun k hk => ⟨by cases hk; rcases hc with rfl | rfl <;> simp, ?_⟩, fun u hu => (by cases hu)⟩
    have s1 := Rel_up0 (k := 61) (by simp) (Rel_up (k := 60) (f := fun _ => C) rfl h)
    show Rel (up (up (up S 60 (fun _ => C)) 61 (fun _ => S 61 0)) 62 (S 62))
    exact Rel_upS rfl s1
  obtain ⟨n, k, w, m, r, κ, hB⟩ := h
  have hC := RB_CR hB
  obtain ⟨⟨s1, s2, s3, s4, s5, s6, s7⟩, h2, h3, hW, hR, hS, hP, hQ, hc, hz, hK⟩ := hB
  have h8 := hS.1.1
  have f1 := fail 1 1 (Or.inl rfl) rfl (jX6_addWater (S 5 0) (S 1) (S 2) (S 3) (S 4) a1 a2 a3 a4 a5 a6 a7) (jX7_addWater (S 60 0) (S 61 0) (S 62) a1 a2 a3 a4 a5 a6 a7)
  have f2 := fail 2 2 (Or.inr rfl) rfl (jX6_addWater (S 5 0) (S 1) (S 2) (S 3) (S 4) a1 a2 a3 a4 a5 a6 a7) (jX7_addWater (S 60 0) (S 61 0) (S 62) a1 a2 a3 a4 a5 a6 a7)
  clear fail
  rcases a_sea a1 a2 with ⟨x, y, hx, hy, rfl, rfl, e1, e2, e3⟩ | ⟨e1, e2 | ⟨e2, e3⟩⟩
  · have i3 : ∀ P : Prop, [Decidable P] → True := fun _ _ => trivial
    by_cases c1 : a3 < 1
    · exact f1 (by unfold jX6_addWater; rw [e1, bnd_n, if_neg one_ne, if_pos c1]) (by unfold jX7_addWater; rw [e2, bnd_n, if_neg one_ne, e3, bnd_n, if_neg one_ne, r_isIn (a := a3), if_pos c1, bnd_n, if_pos rfl, r_fail1, bnd_n])
    by_cases c3 : 30 - nI x < a3
    · refine f1 ?_ (by unfold jX7_addWater; rw [e2, bnd_n, if_neg one_ne, e3, bnd_n, if_neg one_ne, r_isIn (a := a3), if_neg c1, if_pos c3, bnd_n, if_pos rfl, r_fail1, bnd_n])
      unfold jX6_addWater
      rw [e1, bnd_n, if_neg one_ne, if_neg c1, if_pos c3]
      split <;> rfl
    by_cases c2 : 1 ≤ a4
    rotate_left
    · exact f1 (by unfold jX6_addWater; rw [e1, bnd_n, if_neg one_ne, if_neg c1, if_neg c2]) (by unfold jX7_addWater; rw [e2, bnd_n, if_neg one_ne, e3, bnd_n, if_neg one_ne, r_isIn (a := a3), if_neg c1, if_neg c3, bnd_n, if_neg one_ne, r_isIn (a := a4), if_pos (Int32.not_le.mp c2), bnd_n, if_pos rfl, r_fail1, bnd_n])
    have c2' : ¬ a4 < 1 := Int32.not_lt.mpr c2
    by_cases c4 : a4 ≤ 20 - nI y
    rotate_left
    · exact f1 (by unfold jX6_addWater; rw [e1, bnd_n, if_neg one_ne, if_neg c1, if_pos c2, if_neg c3, if_neg c4]) (by unfold jX7_addWater; rw [e2, bnd_n, if_neg one_ne, e3, bnd_n, if_neg one_ne, r_isIn (a := a3), if_neg c1, if_neg c3, bnd_n, if_neg one_ne, r_isIn (a := a4), if_neg c2', if_pos (Int32.not_le.mp c4), bnd_n, if_pos rfl, r_fail1, bnd_n])
    have c4' : ¬ 20 - nI y < a4 := Int32.not_lt.mpr c4
    rcases a_flow a5 with ⟨d1, d2⟩ | ⟨d1, d2⟩
    rotate_left
    · exact f1 (by unfold jX6_addWater; rw [e1, bnd_n, if_neg one_ne, if_neg c1, if_pos c2, if_neg c3, if_pos c4, d1, bnd_n, if_pos rfl]) (by unfold jX7_addWater; rw [e2, bnd_n, if_neg one_ne, e3, bnd_n, if_neg one_ne, r_isIn (a := a3), if_neg c1, if_neg c3, bnd_n, if_neg one_ne, r_isIn (a := a4), if_neg c2', if_neg c4', bnd_n, if_neg one_ne, d2, bnd_n, if_pos rfl, r_fail1, bnd_n])
    rcases a_flow a6 with ⟨d3, d4⟩ | ⟨d3, d4⟩
    rotate_left
    · exact f1 (by unfold jX6_addWater; rw [e1, bnd_n, if_neg one_ne, if_neg c1, if_pos c2, if_neg c3, if_pos c4, d1, bnd_n, if_neg one_ne, d3, bnd_n, if_pos rfl]) (by unfold jX7_addWater; rw [e2, bnd_n, if_neg one_ne, e3, bnd_n, if_neg one_ne, r_isIn (a := a3), if_neg c1, if_neg c3, bnd_n, if_neg one_ne, r_isIn (a := a4), if_neg c2', if_neg c4', bnd_n, if_neg one_ne, d2, bnd_n, if_neg one_ne, d4, bnd_n, if_pos rfl, r_fail1, bnd_n])
    by_cases c7 : a7 < 0
    · exact f1 (by unfold jX6_addWater; rw [e1, bnd_n, if_neg one_ne, if_neg c1, if_pos c2, if_neg c3, if_pos c4, d1, bnd_n, if_neg one_ne, d3, bnd_n, if_neg one_ne, if_pos c7]) (by unfold jX7_addWater; rw [e2, bnd_n, if_neg one_ne, e3, bnd_n, if_neg one_ne, r_isIn (a := a3), if_neg c1, if_neg c3, bnd_n, if_neg one_ne, r_isIn (a := a4), if_neg c2', if_neg c4', bnd_n, if_neg one_ne, d2, bnd_n, if_neg one_ne, d4, bnd_n, if_neg one_ne, r_isIn (a := a7), if_pos c7, bnd_n, if_pos rfl, r_fail1, bnd_n])
    by_cases c8 : a7 ≤ 20
    rotate_left
    · exact f1 (by unfold jX6_addWater; rw [e1, bnd_n, if_neg one_ne, if_neg c1, if_pos c2, if_neg c3, if_pos c4, d1, bnd_n, if_neg one_ne, d3, bnd_n, if_neg one_ne, if_neg c7, if_neg c8]) (by unfold jX7_addWater; rw [e2, bnd_n, if_neg one_ne, e3, bnd_n, if_neg one_ne, r_isIn (a := a3), if_neg c1, if_neg c3, bnd_n, if_neg one_ne, r_isIn (a := a4), if_neg c2', if_neg c4', bnd_n, if_neg one_ne, d2, bnd_n, if_neg one_ne, d4, bnd_n, if_neg one_ne, r_isIn (a := a7), if_neg c7, if_pos (Int32.not_le.mp c8), bnd_n, if_pos rfl, r_fail1, bnd_n])
    have c8' : ¬ 20 < a7 := Int32.not_lt.mpr c8
    by_cases c9 : w = 8
    · subst c9
      exact f2 (by unfold jX6_addWater; rw [e1, bnd_n, if_neg one_ne, if_neg c1, if_pos c2, if_neg c3, if_pos c4, d1, bnd_n, if_neg one_ne, d3, bnd_n, if_neg one_ne, if_neg c7, if_pos c8, show S 5 0 = nI 8 from s5, if_neg (by decide)]) (by unfold jX7_addWater; rw [e2, bnd_n, if_neg one_ne, e3, bnd_n, if_neg one_ne, r_isIn (a := a3), if_neg c1, if_neg c3, bnd_n, if_neg one_ne, r_isIn (a := a4), if_neg c2', if_neg c4', bnd_n, if_neg one_ne, d2, bnd_n, if_neg one_ne, d4, bnd_n, if_neg one_ne, r_isIn (a := a7), if_neg c7, if_neg c8', bnd_n, if_neg one_ne, show S 61 0 = nI 8 from s6, if_pos (by decide), r_fail1, bnd_n])
    · -- a water more
      obtain ⟨wd, hwd, rfl⟩ := nI_of (x := a3) (fun z => c1 (Int32.lt_trans z (by decide)))
      obtain ⟨dp, hdp, rfl⟩ := nI_of (x := a4) (fun z => c2' (Int32.lt_trans z (by decide)))
      obtain ⟨wv, hwv, rfl⟩ := nI_of (x := a7) c7
      have hwd1 : 1 ≤ wd := by
        rcases Nat.lt_or_ge wd 1 with z | z
        · exact absurd ((nI_ltI (b := 1) hwd (by omega)).mpr z) c1
        · exact z
      have hdp1 : 1 ≤ dp := by
        rcases Nat.lt_or_ge dp 1 with z | z
        · exact absurd ((nI_ltI (b := 1) hdp (by omega)).mpr z) c2'
        · exact z
      have hwd2 : x + wd ≤ 30 := by
        rcases Nat.lt_or_ge 30 (x + wd) with z | z
        · exact absurd (show (30 : Int32) - nI x < nI wd by rw [show (30 : Int32) = nI 30 from rfl, pk_sub (by omega)]; exact (nI_ltI (by omega) hwd).mpr (by omega)) c3
        · exact z
      have hdp2 : y + dp ≤ 20 := by
        rw [show (20 : Int32) = nI 20 from rfl, pk_sub (by omega)] at c4
        have := (nI_leI hdp (by omega)).mp c4
        omega
      have hwv2 : wv ≤ 20 := (nI_leI (b := 20) hwv (by omega)).mp c8
      have hcov := c_cover (w := w) (C := S 4) h8 hwd2 hdp2
      have g1 : jX6_addWater (S 5 0) (S 1) (S 2) (S 3) (S 4) (nI x) (nI y) (nI wd) (nI dp) a5 a6 (nI wv) = some (.inr (nI w, nI (w + 1), upd (S 1) w a5, upd (S 2) w a6, upd (S 3) w (nI wv), fun q => if y ≤ q / 30 ∧ q / 30 < y + dp ∧ x ≤ q % 30 ∧ q % 30 < x + wd then nI w else S 4 q)) := by
        unfold jX6_addWater jX4_append
        rw [e1, bnd_n, if_neg one_ne, if_neg c1, if_pos c2, if_neg c3, if_pos c4, d1, bnd_n, if_neg one_ne, d3, bnd_n, if_neg one_ne, if_neg c7, if_pos c8, show S 5 0 = nI w from s5, if_pos (show nI w < 8 from (nI_ltI (b := 8) (by omega) (by omega)).mpr (by omega)), hcov, bnd_n, if_neg (show ¬ (8 : Int32) ≤ nI w from fun z => by have := (nI_leI (a := 8) (by omega) (by omega)).mp z; omega), chk_n (by omega) (by omega), chk_n (by omega) (by omega), chk_n (by omega) (by omega), bnd_n, wr_n (by omega), wr_n (by omega), wr_n (by omega), nI_1]
      have g2 : jX7_addWater (S 60 0) (S 61 0) (S 62) (nI x) (nI y) (nI wd) (nI dp) a5 a6 (nI wv) = some (nI w, 0, nI (w + 1), fun q => if 7 * w ≤ q ∧ q < 7 * w + 7 then upd (upd (upd (upd (upd (upd (upd (fun _ => 0) 0 (nI x)) 1 (nI y)) 2 (nI wd)) 3 (nI dp)) 4 a5) 5 a6) 6 (nI wv) (q - 7 * w) else S 62 q) := by
        unfold jX7_addWater
        rw [e2, bnd_n, if_neg one_ne, e3, bnd_n, if_neg one_ne, r_isIn (a := nI wd), if_neg c1, if_neg c3, bnd_n, if_neg one_ne, r_isIn (a := nI dp), if_neg c2', if_neg c4', bnd_n, if_neg one_ne, d2, bnd_n, if_neg one_ne, d4, bnd_n, if_neg one_ne, r_isIn (a := nI wv), if_neg c7, if_neg c8', bnd_n, if_neg one_ne, show S 61 0 = nI w from s6, if_neg (show ¬ nI w = 8 from fun z => c9 ((nI_eq (b := 8) (by omega) (by omega)).mp z))]
        have cl : ∀ i : Int32, inB i 7 = true → ∀ {α : Type} {o : Option α}, chk 7 i o = o := fun i hi {α} {o} => if_pos hi
        rw [cl 0 (by decide), cl 1 (by decide), cl 2 (by decide), cl 3 (by decide), cl 4 (by decide), cl 5 (by decide), cl 6 (by decide), show (7 : Int32) * nI w = nI (7 * w) from pk_mul 7 w, chkP_n, show cpy (wr (wr (wr (wr (wr (wr (wr (fun _ => 0) 0 (nI x)) 1 (nI y)) 2 (nI wd)) 3 (nI dp)) 4 a5) 5 a6) 6 (nI wv)) (S 62) 0 (nI (7 * w)) 7 = _ from cpy_n (c := 7) (by omega) (by omega), nI_1, nI_pred]
        · rfl
        · refine ⟨by decide, n_neg (by omega), by decide, by decide, ?_⟩
          rw [clamp_n (by omega)]
          show 7 * w + 7 ≤ 56
          omega
      refine ⟨_, _, g1, g2, rfl, fun k hk => (by cases hk), fun u hu => ?_⟩
      cases hu
      refine ⟨rfl, n, k, w + 1, m, r, κ, RelB_of (A := S) hW hR hC hP hQ ⟨s1, s2, s3, s4, rfl, rfl, s7⟩ h2 h3 ?_ hc hK⟩
      show SOK (w + 1) (upd (S 1) w a5) (upd (S 2) w a6) (upd (S 3) w (nI wv)) (fun q => if y ≤ q / 30 ∧ q / 30 < y + dp ∧ x ≤ q % 30 ∧ q % 30 < x + wd then nI w else S 4 q) (fun q => if 7 * w ≤ q ∧ q < 7 * w + 7 then upd (upd (upd (upd (upd (upd (upd (fun _ => 0) 0 (nI x)) 1 (nI y)) 2 (nI wd)) 3 (nI dp)) 4 a5) 5 a6) 6 (nI wv) (q - 7 * w) else S 62 q)
      generalize hD : (fun q => if 7 * w ≤ q ∧ q < 7 * w + 7 then upd (upd (upd (upd (upd (upd (upd (fun _ => 0) 0 (nI x)) 1 (nI y)) 2 (nI wd)) 3 (nI dp)) 4 a5) 5 a6) 6 (nI wv) (q - 7 * w) else S 62 q) = D
      have dlo : ∀ q, q < 7 * w → D q = S 62 q := fun q hq => by rw [← hD]; exact if_neg (by omega)
      have dat : ∀ i v, i < 7 → upd (upd (upd (upd (upd (upd (upd (fun _ => 0) 0 (nI x)) 1 (nI y)) 2 (nI wd)) 3 (nI dp)) 4 a5) 5 a6) 6 (nI wv) i = v → D (7 * w + i) = v := fun i v hi e => by
        rw [← hD]
        dsimp only
        rw [if_pos ⟨by omega, by omega⟩, show 7 * w + i - 7 * w = i by omega]
        exact e
      have D0 : D (7 * w) = nI x := dat 0 _ (by omega) rfl
      have D1 := dat 1 (nI y) (by omega) rfl
      have D2 := dat 2 (nI wd) (by omega) rfl
      have D3 := dat 3 (nI dp) (by omega) rfl
      have D4 := dat 4 a5 (by omega) rfl
      have D5 := dat 5 a6 (by omega) rfl
      have D6 := dat 6 (nI wv) (by omega) rfl
      obtain ⟨⟨-, hS1⟩, hS2, hS3⟩ := hS
      refine ⟨⟨by omega, fun j hj => ?_⟩, fun px py hpx hpy => ?_, fun j hj => ?_⟩
      · by_cases q : j = w
        · subst q
          exact ⟨x, y, wd, dp, wv, D0, D1, D2, D3, hwd1, hdp1, hwd2, hdp2, D6, hwv2⟩
        · obtain ⟨x0, y0, wd0, dp0, v0, k1, k2, k3, k4, k5, k6, k7, k8, k9, k10⟩ := hS1 j (by omega)
          exact ⟨x0, y0, wd0, dp0, v0, (dlo _ (by omega)).trans k1, (dlo _ (by omega)).trans k2, (dlo _ (by omega)).trans k3, (dlo _ (by omega)).trans k4, k5, k6, k7, k8, (dlo _ (by omega)).trans k9, k10⟩
      · dsimp only
        rw [wA, wA_ext dlo, show (px + 30 * py) / 30 = py by omega, show (px + 30 * py) % 30 = px by omega]
        have hcv : cov D w px py = true ↔ (y ≤ py ∧ py < y + dp ∧ x ≤ px ∧ px < x + wd) := by
          unfold cov
          rw [D0, D1, D2, D3, clamp_n (by omega), clamp_n (by omega), clamp_n (by omega), clamp_n (by omega), decide_eq_true_eq]
          omega
        by_cases q : y ≤ py ∧ py < y + dp ∧ x ≤ px ∧ px < x + wd
        · rw [if_pos q, if_pos (hcv.mpr q)]; rfl
        · rw [if_neg q, if_neg (fun z => q (hcv.mp z))]
          exact hS2 px py hpx hpy
      · by_cases q : j = w
        · subst q
          rw [upd_a, upd_a, upd_a, D4, D5, D6]
          exact ⟨rfl, rfl, rfl⟩
        · rw [upd_b q, upd_b q, upd_b q, dlo _ (by omega), dlo _ (by omega), dlo _ (by omega)]
          exact hS3 j (by omega)
  · exact f1 (by unfold jX6_addWater; rw [e1, bnd_n, if_pos rfl]) (by unfold jX7_addWater; rw [e2, bnd_n, if_pos rfl, r_fail1, bnd_n])
  · exact f1 (by unfold jX6_addWater; rw [e1, bnd_n, if_pos rfl]) (by unfold jX7_addWater; rw [e2, bnd_n, if_neg one_ne, e3, bnd_n, if_pos rfl, r_fail1, bnd_n])
