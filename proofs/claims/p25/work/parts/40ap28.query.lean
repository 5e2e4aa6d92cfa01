/-! the calls that ask -/
theorem qy0 {S : Nat → Nat → Int32} {o : Option (Nat ⊕ Int32)} {o' : Option (Int32 × Int32)} (kc : Nat → Int32) (k3 : kc 3 = 1) (h : Rel S) (H : (o = some (.inl 3) ∧ o' = some (0, 1)) ∨ ∃ v, o = some (.inr v) ∧ o' = some (v, 0)) :
    ∃ (q : Nat ⊕ (Int32)) (q' : Int32 × Int32), o = some q ∧ o' = some q' ∧ q'.2 = sel q kc (fun _ => 0) ∧ (∀ k, q = .inl k → k ∈ [3] ∧ Rel (up S 60 (fun _ => q'.2))) ∧ (∀ u, q = .inr u → q'.1 = u ∧ Rel (up S 60 (fun _ => q'.2))) := by
  have hR : ∀ x, Rel (up S 60 (fun _ => x)) := fun x => Rel_up rfl h
  rcases H with ⟨h1, h2⟩ | ⟨v, h1, h2⟩
  · exact ⟨_, _, h1, h2, k3.symm, fun k hk => ⟨by cases hk; simp, hR _⟩, fun u hu => by cases hu⟩
  · exact ⟨_, _, h1, h2, rfl, fun k hk => (by cases hk), fun u hu => ⟨by cases hu; rfl, hR _⟩⟩
theorem qy1 {S : Nat → Nat → Int32} {o : Option (Nat ⊕ Int32)} {o' : Option (Int32 × Int32 × (Nat → Int32))} (kc : Nat → Int32) (k3 : kc 3 = 1) (h : Rel S) (H : (o = some (.inl 3) ∧ ∃ p, o' = some (0, 1, p)) ∨ ∃ v p, o = some (.inr v) ∧ o' = some (v, 0, p)) :
    ∃ (q : Nat ⊕ (Int32)) (q' : Int32 × Int32 × (Nat → Int32)), o = some q ∧ o' = some q' ∧ q'.2.1 = sel q kc (fun _ => 0) ∧ (∀ k, q = .inl k → k ∈ [3] ∧ Rel (up (up S 60 (fun _ => q'.2.1)) 73 q'.2.2)) ∧ (∀ u, q = .inr u → q'.1 = u ∧ Rel (up (up S 60 (fun _ => q'.2.1)) 73 q'.2.2)) := by
  have hR : ∀ x p, Rel (up (up S 60 (fun _ => x)) 73 p) := fun x p => Rel_up rfl (Rel_up rfl h)
  rcases H with ⟨h1, p, h2⟩ | ⟨v, p, h1, h2⟩
  · exact ⟨_, _, h1, h2, k3.symm, fun k hk => ⟨by cases hk; simp, hR _ _⟩, fun u hu => by cases hu⟩
  · exact ⟨_, _, h1, h2, rfl, fun k hk => (by cases hk), fun u hu => ⟨by cases hu; rfl, hR _ _⟩⟩
theorem r_fail1 {x y : Int32} : jX7_fail x y = some (0, y) := rfl
theorem a_sea (a1 a2 : Int32) : (∃ x y, x < 30 ∧ y < 20 ∧ a1 = nI x ∧ a2 = nI y ∧ jX6_isSea a1 a2 = some 1 ∧ jX7_isIn a1 0 29 = some 1 ∧ jX7_isIn a2 0 19 = some 1) ∨ (jX6_isSea a1 a2 = some 0 ∧ (jX7_isIn a1 0 29 = some 0 ∨ (jX7_isIn a1 0 29 = some 1 ∧ jX7_isIn a2 0 19 = some 0))) := by
  unfold jX6_isSea
  rw [r_isIn, r_isIn]
  rcases pk_ix a1 (n := 30) (by omega) with h | h | ⟨x, hx, rfl⟩
  · exact Or.inr ⟨by rw [if_pos h, chkZ_a], Or.inl (by rw [if_pos h])⟩
  · by_cases h0 : a1 < 0
    · exact Or.inr ⟨by rw [if_pos h0, chkZ_a], Or.inl (by rw [if_pos h0])⟩
    · obtain ⟨j, hj, rfl⟩ := nI_of h0
      have hnj := (nI_leI (by omega) hj).mp h
      exact Or.inr ⟨by rw [if_neg h0, if_pos (by exact h), chkZ_a], Or.inl (by rw [if_neg h0, if_pos (show (29 : Int32) < nI j from (nI_ltI (a := 29) (by omega) hj).mpr (by omega))])⟩
  · have g1 : ¬ (30 : Int32) ≤ nI x := fun q => by have := (nI_leI (a := 30) (by omega) (by omega)).mp q; omega
    have g2 : ¬ (29 : Int32) < nI x := fun q => by have := (nI_ltI (a := 29) (by omega) (by omega)).mp q; omega
    rw [if_neg (n_neg (by omega)), if_neg g1, if_neg (n_neg (by omega)), if_neg g2]
    rcases pk_ix a2 (n := 20) (by omega) with h | h | ⟨y, hy, rfl⟩
    · exact Or.inr ⟨by rw [if_pos h, chkZ_a], Or.inr ⟨rfl, by rw [if_pos h]⟩⟩
    · by_cases h0 : a2 < 0
      · exact Or.inr ⟨by rw [if_pos h0, chkZ_a], Or.inr ⟨rfl, by rw [if_pos h0]⟩⟩
      · obtain ⟨j, hj, rfl⟩ := nI_of h0
        have hnj := (nI_leI (by omega) hj).mp h
        exact Or.inr ⟨by rw [if_neg h0, if_pos (by exact h), chkZ_a], Or.inr ⟨rfl, by rw [if_neg h0, if_pos (show (19 : Int32) < nI j from (nI_ltI (a := 19) (by omega) hj).mpr (by omega))]⟩⟩
    · have g3 : ¬ (20 : Int32) ≤ nI y := fun q => by have := (nI_leI (a := 20) (by omega) (by omega)).mp q; omega
      have g4 : ¬ (19 : Int32) < nI y := fun q => by have := (nI_ltI (a := 19) (by omega) (by omega)).mp q; omega
      exact Or.inl ⟨x, y, hx, hy, rfl, rfl, by rw [if_neg (n_neg (by omega)), if_neg g3, chkZ_b], rfl, by rw [if_neg (n_neg (by omega)), if_neg g4]⟩
theorem sim_barrel (S : Nat → Nat → Int32) (a1 a2 : Int32) (h : Rel S) : ∃ (q : Nat ⊕ (Int32)) (q' : Int32 × Int32 × (Nat → Int32)), jX6_barrel (S 23 0) (S 12) (S 13) (S 14) (S 15) (S 16) (S 17) (S 18) (S 19) (S 20) (S 21) (S 22) (S 31 0) (S 27) (S 28) a1 a2 = some q ∧ jX7_barrel (S 60 0) (S 65 0) (S 67 0) (S 66) (S 68) (S 69) (S 71) (S 73) a1 a2 = some q' ∧ q'.2.1 = sel q kcL_barrel (fun _ => 0) ∧ (∀ k, q = .inl k → k ∈ [3] ∧ Rel (up (up S 60 (fun _ => q'.2.1)) 73 q'.2.2)) ∧ (∀ u, q = .inr u → q'.1 = u ∧ Rel (up (up S 60 (fun _ => q'.2.1)) 73 q'.2.2)) := by
  refine qy1 kcL_barrel rfl h ?_
  obtain ⟨n, k, w, m, r, κ, hB⟩ := h
  have hC := RB_CR hB
  obtain ⟨⟨s1, s2, s3, s4, s5, s6, s7⟩, -, -, hW, hR, -, hP, hQ, hc, -⟩ := hB
  have hn := hW.1
  unfold jX6_barrel jX7_barrel
  rw [show S 23 0 = nI n from s1, show S 65 0 = nI n from s2, show S 31 0 = nI m from s7, show S 67 0 = nI k from s4]
  rcases a_bar (n := n) (by omega) a1 with ⟨b, hb, rfl, e1, e2⟩ | ⟨e1, e2⟩
  · rw [e1, bnd_n, if_neg one_ne, e2, bnd_n, if_neg one_ne]
    rcases a_what (c := 13) (C1 := 12) (by omega) (by omega) rfl a2 with ⟨j, hj, rfl, e4, e5⟩ | ⟨e4, e5⟩
    · rw [show jX6_isBelow (nI j) 13 = some 1 from e4, bnd_n, if_neg one_ne, e5, bnd_n, if_neg one_ne]
      obtain ⟨v, pc', f1, f2⟩ := b_barrel (pc := S 73) hW hC hP hQ hR hb (hc b hb) hj
      refine Or.inr ⟨v, pc', ?_, ?_⟩
      · rw [show jX6_barrelFact (S 12) (S 13) (S 14) (S 15) (S 16) (S 17) (S 18) (S 19) (S 20) (S 21) (S 22) (nI m) (S 27) (S 28) (nI b) (nI j) = some v from f1, bnd_n]
      · rw [show jX7_barrelTold (nI n) (nI k) (S 66) (S 68) (S 69) (S 71) (S 73) (nI b) (nI j) = some (v, pc') from f2, bnd_n]
    · rw [show jX6_isBelow a2 13 = some 0 from e4, bnd_n, if_pos rfl, e5, bnd_n, if_pos rfl]
      exact Or.inl ⟨rfl, _, rfl⟩
  · rw [e1, bnd_n, if_pos rfl, e2, bnd_n, if_pos rfl]
    exact Or.inl ⟨rfl, _, rfl⟩
theorem sim_count (S : Nat → Nat → Int32) (a1 : Int32) (h : Rel S) : ∃ (q : Nat ⊕ (Int32)) (q' : Int32 × Int32 × (Nat → Int32)), jX6_count (S 0 0) (S 10 0) (S 11 0) (S 23 0) (S 17) (S 19) (S 22) (S 26 0) (S 25) (S 31 0) a1 = some q ∧ jX7_count (S 60 0) (S 65 0) (S 67 0) (S 68) (S 69) (S 71) (S 72) (S 73) a1 = some q' ∧ q'.2.1 = sel q kcL_count (fun _ => 0) ∧ (∀ k, q = .inl k → k ∈ [3] ∧ Rel (up (up S 60 (fun _ => q'.2.1)) 73 q'.2.2)) ∧ (∀ u, q = .inr u → q'.1 = u ∧ Rel (up (up S 60 (fun _ => q'.2.1)) 73 q'.2.2)) := by
  refine qy1 kcL_count rfl h ?_
  obtain ⟨n, k, w, m, r, κ, hB⟩ := h
  have hC := RB_CR hB
  obtain ⟨⟨s1, s2, s3, s4, s5, s6, s7⟩, -, ⟨t1, t2, t3, t4, -⟩, hW, hR, -, hP, hQ, -⟩ := hB
  unfold jX6_count jX7_count
  rw [show S 23 0 = nI n from s1, show S 65 0 = nI n from s2, show S 31 0 = nI m from s7, show S 67 0 = nI k from s4, show S 26 0 = nI k from s3]
  rcases a_what (c := 12) (C1 := 11) (by omega) (by omega) rfl a1 with ⟨j, hj, rfl, e4, e5⟩ | ⟨e4, e5⟩
  · rw [show jX6_isBelow (nI j) 12 = some 1 from e4, bnd_n, if_neg one_ne, e5, bnd_n, if_neg one_ne]
    obtain ⟨v, pc', f1, f2⟩ := b_count (pc := S 73) hW hC hP hQ hR t1 (t2.trans t3.symm) t4 hj
    refine Or.inr ⟨v, pc', ?_, ?_⟩
    · rw [show jX6_countFact (S 0 0) (S 10 0) (S 11 0) (nI n) (S 17) (S 19) (S 22) (nI k) (S 25) (nI m) (nI j) = some v from f1, bnd_n]
    · rw [show jX7_counted (nI n) (nI k) (S 68) (S 69) (S 71) (S 72) (S 73) (nI j) = some (v, pc') from f2, bnd_n]
  · rw [show jX6_isBelow a1 12 = some 0 from e4, bnd_n, if_pos rfl, e5, bnd_n, if_pos rfl]
    exact Or.inl ⟨rfl, _, rfl⟩
theorem b_cast {n k : Nat} {A : Nat → Nat → Int32} {li lk wa go pe st x y se ks fx tb T U pp : Nat → Int32} (hk : k ≤ 8) (hC : CR n k A li lk wa go pe st x y se ks) (hR : RM n k A fx tb T U pp) {c : Nat} (hc : c < k) {what : Nat} (hw : what < 2) : jX6_castawayFact se ks (nI c) (nI what) = some (pp (2 * c + what)) := by
  unfold jX6_castawayFact
  rcases (by omega : what = 0 ∨ what = 1) with rfl | rfl
  · rw [if_pos (by decide), chk_n (by omega) (by omega), rd_n (by omega), (hC.2.1 c hc).1]
    exact congrArg some (hR.2.2.2.1 c hc).1.symm
  · rw [if_neg (by decide), chk_n (by omega) (by omega), rd_n (by omega), (hC.2.1 c hc).2, (hR.2.2.2.1 c hc).2]
theorem sim_castaway (S : Nat → Nat → Int32) (a1 a2 : Int32) (h : Rel S) : ∃ (q : Nat ⊕ (Int32)) (q' : Int32 × Int32), jX6_castaway (S 26 0) (S 24) (S 25) a1 a2 = some q ∧ jX7_castaway (S 60 0) (S 67 0) (S 71) a1 a2 = some q' ∧ q'.2 = sel q kcL_castaway (fun _ => 0) ∧ (∀ k, q = .inl k → k ∈ [3] ∧ Rel (up S 60 (fun _ => q'.2))) ∧ (∀ u, q = .inr u → q'.1 = u ∧ Rel (up S 60 (fun _ => q'.2))) := by
  refine qy0 kcL_castaway rfl h ?_
  obtain ⟨n, k, w, m, r, κ, hB⟩ := h
  have hC := RB_CR hB
  obtain ⟨⟨s1, s2, s3, s4, s5, s6, s7⟩, -, -, hW, hR, -⟩ := hB
  have hk := hW.2.1
  unfold jX6_castaway jX7_castaway
  rw [show S 67 0 = nI k from s4, show S 26 0 = nI k from s3]
  rcases a_person (n := k) (by omega) a1 with ⟨c, hc, rfl, e1, e2⟩ | ⟨e1, e2⟩
  · rw [e1, bnd_n, if_neg one_ne, e2, bnd_n, if_neg one_ne]
    rcases a_what (c := 2) (C1 := 1) (by omega) (by omega) rfl a2 with ⟨j, hj, rfl, e4, e5⟩ | ⟨e4, e5⟩
    · rw [show jX6_isBelow (nI j) 2 = some 1 from e4, bnd_n, if_neg one_ne, e5, bnd_n, if_neg one_ne]
      refine Or.inr ⟨S 71 (2 * c + j), ?_, ?_⟩
      · rw [show jX6_castawayFact (S 24) (S 25) (nI c) (nI j) = some (S 71 (2 * c + j)) from b_cast hk hC hR hc hj, bnd_n]
      · rw [l2, pk_mul, nI_add, chk_n (by omega) (by omega), rd_n (by omega)]
    · rw [show jX6_isBelow a2 2 = some 0 from e4, bnd_n, if_pos rfl, e5, bnd_n, if_pos rfl]
      exact Or.inl ⟨rfl, rfl⟩
  · rw [e1, bnd_n, if_pos rfl, e2, bnd_n, if_pos rfl]
    exact Or.inl ⟨rfl, rfl⟩
theorem sim_lashing (S : Nat → Nat → Int32) (a1 a2 a3 : Int32) (h : Rel S) : ∃ (q : Nat ⊕ (Int32)) (q' : Int32 × Int32), jX6_lashing (S 5 0) (S 3) (S 4) (S 23 0) (S 17) (S 18) (S 20) (S 21) (S 31 0) (S 27) (S 28) (S 29) (S 30) a1 a2 a3 = some q ∧ jX7_lashing (S 60 0) (S 61 0) (S 65 0) (S 67 0) (S 62) (S 68) (S 69) (S 70) (S 71) a1 a2 a3 = some q' ∧ q'.2 = sel q kcL_lashing (fun _ => 0) ∧ (∀ k, q = .inl k → k ∈ [3] ∧ Rel (up S 60 (fun _ => q'.2))) ∧ (∀ u, q = .inr u → q'.1 = u ∧ Rel (up S 60 (fun _ => q'.2))) := by
  refine qy0 kcL_lashing rfl h ?_
  obtain ⟨n, k, w, m, r, κ, hB⟩ := h
  have hC := RB_CR hB
  obtain ⟨⟨s1, s2, s3, s4, s5, s6, s7⟩, -, -, hW, hR, hS, -, hQ, -⟩ := hB
  have hn := hW.1
  have hm := hQ.1
  unfold jX6_lashing jX7_lashing
  rw [show S 5 0 = nI w from s5, show S 61 0 = nI w from s6, show S 23 0 = nI n from s1, show S 65 0 = nI n from s2, show S 31 0 = nI m from s7, show S 67 0 = nI k from s4]
  rcases a_bar (n := n) (by omega) a1 with ⟨a, ha, rfl, e1, e2⟩ | ⟨e1, e2⟩
  · rw [e1, bnd_n, if_neg one_ne, e2, bnd_n, if_neg one_ne]
    rcases a_bar (n := n) (by omega) a2 with ⟨b, hb, rfl, e1, e2⟩ | ⟨e1, e2⟩
    · rw [e1, bnd_n, if_neg one_ne, e2, bnd_n, if_neg one_ne]
      rcases a_what (c := 3) (C1 := 2) (by omega) (by omega) rfl a3 with ⟨j, hj, rfl, e4, e5⟩ | ⟨e4, e5⟩
      · rw [show jX6_isBelow (nI j) 3 = some 1 from e4, bnd_n, if_neg one_ne, e5, bnd_n, if_neg one_ne, r_tied (by omega) (by omega), bnd_n]
        refine Or.inr ?_
        obtain ⟨f1, f2⟩ := c_find hQ (by omega : a < 24) (by omega : b < 24)
        have hp := pr_lt (a := a) (b := b) (by omega) (by omega)
        by_cases h0 : 0 < S 69 (pr a b)
        · obtain ⟨i, hi, hk, e⟩ := f1 h0
          obtain ⟨q1, q2, q3, q4⟩ := hQ.2.2 i hi
          rw [show jX2_find (nI m) (S 27) (S 28) (nI a) (nI b) = some (nI i) from e, bnd_n, if_pos (n_nonneg (by omega)), if_pos h0, if_neg one_ne]
          rcases (by omega : j = 0 ∨ j = 1 ∨ j = 2) with rfl | rfl | rfl
          · exact ⟨S 69 (pr a b), by rw [if_pos (by decide), chk_n (by omega) (by omega), rd_n (by omega), ← hk]; exact congrArg (fun z => some (Sum.inr z)) q3, by rw [if_pos (by decide), r_pair (by omega) (by omega), bnd_n, chk_n hp (by omega), rd_n (by omega)]⟩
          · exact ⟨S 70 (pr a b), by rw [if_neg (by decide), if_pos (by decide), chk_n (by omega) (by omega), rd_n (by omega), ← hk]; exact congrArg (fun z => some (Sum.inr z)) q4, by rw [if_neg (by decide), if_pos (by decide), r_pair (by omega) (by omega), bnd_n, chk_n hp (by omega), rd_n (by omega)]⟩
          · obtain ⟨p, q, k1, k2, k3, k4, k5, fp, sq, -, k6⟩ := Q_pair hn hQ hW.2.2.2.2.1 hi
            have es : jX3_stress (S 17) (S 18) (S 20) (S 21) (S 27) (S 28) (nI w) (S 3) (S 4) (nI i) = some (strn (S 62) w S p q) := c_stress hW hS hC (by omega) (by omega) k5 fp sq
            have er : jX7_stress (nI w) (nI k) (S 62) (S 68) (S 71) (nI a) (nI b) = some (strn (S 62) w S a b) := r_stress hR hW hS.1 ha hb
            have hab : Tie n (S 69) a b := by
              refine ⟨ha, hb, fun z => ?_, h0⟩
              rw [z] at hk
              have := hk.symm.trans k1
              unfold pr at this
              omega
            have esym : strn (S 62) w S p q = strn (S 62) w S a b := by
              rcases pr_cases (hk.symm.trans k1) k4 (by omega) (by omega) (by omega) with ⟨rfl, rfl⟩ | ⟨rfl, rfl⟩
              · rfl
              · obtain ⟨x1, x2⟩ := hW.2.2.2.2.2.1 a b hab
                obtain ⟨la, hla, ea⟩ := ld_n hW ha
                obtain ⟨lb, hlb, eb⟩ := ld_n hW hb
                unfold strn xN yN
                rw [x1, x2, ea, eb, mabs_sub (by omega) (by omega), mabs_sub (by omega) (by omega), Nat.add_comm]
            exact ⟨strn (S 62) w S a b, by rw [if_neg (by decide), if_neg (by decide), es, bnd_n, esym], by rw [if_neg (by decide), if_neg (by decide), er, bnd_n]⟩
        · rw [show jX2_find (nI m) (S 27) (S 28) (nI a) (nI b) = some (-1) from f2 h0, bnd_n, if_neg (by decide), if_neg h0, if_pos rfl]
          exact ⟨0, rfl, rfl⟩
      · rw [show jX6_isBelow a3 3 = some 0 from e4, bnd_n, if_pos rfl, e5, bnd_n, if_pos rfl]
        exact Or.inl ⟨rfl, rfl⟩
    · rw [e1, bnd_n, if_pos rfl, e2, bnd_n, if_pos rfl]
      exact Or.inl ⟨rfl, rfl⟩
  · rw [e1, bnd_n, if_pos rfl, e2, bnd_n, if_pos rfl]
    exact Or.inl ⟨rfl, rfl⟩
