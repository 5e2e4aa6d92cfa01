/-! foresee and advise -/
section Tried
variable {n k m w : Nat} {A : Nat → Nat → Int32} {co ro li lk wa go pe st x y p se ks f s t u dx dy wv C Wt : Nat → Int32} {κ : Nat → Nat} {ho br wx wy : Int32}
/-- what the reference sees -/
theorem r_look {fx tb T U pp nu pc : Nat → Int32} {A' : Nat → Nat → Int32} {B : Int32} {hh : Nat} (hS : WOK w Wt) (hhh : hh < 900) (hW : WA n k A) (hR : RM n k A fx tb T U pp) (hH : Hrs n w Wt wx wy hh A A' B) {what : Nat} (hw : what < 4) (hC' : CR n k A' li lk wa go pe st x y se ks) (hP' : PN n A' p) (hQ' : QOK m f s t u κ (A' kM_strength) (A' kM_wear)) :
    ∃ v pc', jX7_look (nI w) wx wy (nI n) (nI k) Wt fx tb T U pp nu pc (nI hh) (nI what) = some (v, pc') ∧ (what = 0 → jX0_countOf (nI n) st 0 = some v) ∧ (what = 1 → jX1_countOf (nI k) ks 2 = some v) ∧ (what = 2 → jX0_pieces (nI n) p = some v) ∧ (what = 3 → v = nI m) := by
  have hW' := WA_Hrs hS hW hH
  have hn := hW'.1
  have hk := hW'.2.1
  obtain ⟨tb', T', U', pp', nu', pc', e, hR'⟩ := r_lookL (wx := wx) (wy := wy) hS hhh FU 0 A A' B fx tb T U pp nu pc (by omega) (by unfold FU; omega) hW hR (by rw [Nat.sub_zero]; exact hH)
  have e' : jX7_look_L8 (nI w) wx wy (nI n) (nI k) Wt fx (nI hh) FU tb T U pp nu pc 0 = some (tb', T', U', pp', nu', pc') := e
  unfold jX7_look
  rw [e', bnd_n]
  dsimp only
  unfold jX7_counted
  rcases (by omega : what = 0 ∨ what = 1 ∨ what = 2 ∨ what = 3) with rfl | rfl | rfl | rfl
  · obtain ⟨v, f1, f2⟩ := b_state (a := 0) hn hC' hR'
    exact ⟨v, pc', by rw [if_pos (by decide), if_neg (by decide), if_neg (by decide), if_pos (by decide), f2, bnd_n, bnd_n], fun _ => f1, fun z => absurd z (by decide), fun z => absurd z (by decide), fun z => absurd z (by decide)⟩
  · obtain ⟨v, f1, f2⟩ := b_crew (a := 2) hk hC' hR'
    exact ⟨v, pc', by rw [if_neg (by decide), if_pos (by decide), if_neg (by decide), if_neg (by decide), if_neg (by decide), if_neg (by decide), if_neg (by decide), if_neg (by decide), if_pos (by decide), f2, bnd_n, bnd_n], fun z => absurd z (by decide), fun _ => f1, fun z => absurd z (by decide), fun z => absurd z (by decide)⟩
  · obtain ⟨v, q, f1, f2, f3⟩ := b_pieces (pc := pc') hW' hP' hR'
    exact ⟨v, q, by rw [if_neg (by decide), if_neg (by decide), if_pos (by decide), if_neg (by decide), if_neg (by decide), if_neg (by decide), if_neg (by decide), if_neg (by decide), if_neg (by decide), if_neg (by decide), if_neg (by decide), if_pos (by decide), f2, bnd_n, f3, bnd_n, bnd_n], fun z => absurd z (by decide), fun z => absurd z (by decide), fun _ => f1, fun z => absurd z (by decide)⟩
  · obtain ⟨v, f1, f2⟩ := b_ties hn hW'.2.2.2.2.1 hQ' hR'
    exact ⟨nI m, pc', by rw [if_neg (by decide), if_neg (by decide), if_neg (by decide), if_neg (by decide), if_neg (by decide), if_neg (by decide), if_neg (by decide), if_neg (by decide), if_neg (by decide), if_neg (by decide), if_pos (by decide), f1, bnd_n, bnd_n, f2], fun z => absurd z (by decide), fun z => absurd z (by decide), fun z => absurd z (by decide), fun _ => rfl⟩
end Tried
theorem sim_foresee (S : Nat → Nat → Int32) (a1 a2 : Int32) (h : Rel S) : ∃ (q : Nat ⊕ (Int32 × Int32 × Int32 × (Nat → Int32) × (Nat → Int32) × Int32 × (Nat → Int32) × (Nat → Int32) × (Nat → Int32) × (Nat → Int32) × (Nat → Int32) × (Nat → Int32) × (Nat → Int32) × (Nat → Int32) × (Nat → Int32) × (Nat → Int32) × (Nat → Int32) × Int32 × (Nat → Int32) × (Nat → Int32) × Int32 × (Nat → Int32) × (Nat → Int32) × (Nat → Int32) × (Nat → Int32))) (q' : Int32 × Int32 × (Nat → Int32)), jX6_foresee (S 5 0) (S 6 0) (S 7 0) (S 1) (S 2) (S 3) (S 4) (S 10 0) (S 11 0) (S 23 0) (S 12) (S 13) (S 14) (S 15) (S 16) (S 17) (S 18) (S 19) (S 20) (S 21) (S 22) (S 26 0) (S 24) (S 25) (S 31 0) (S 27) (S 28) (S 29) (S 30) (S 34 0) (S 35 0) (S 32) (S 33) (S 47 0) (S 36) (S 37) (S 38) (S 39) (S 40) (S 41) (S 42) (S 43) (S 44) (S 45) (S 46) (S 50 0) (S 48) (S 49) (S 55 0) (S 51) (S 52) (S 53) (S 54) a1 a2 = some q ∧ jX7_foresee (S 60 0) (S 61 0) (S 63 0) (S 64 0) (S 65 0) (S 67 0) (S 62) (S 66) (S 68) (S 69) (S 70) (S 71) (S 72) (S 73) a1 a2 = some q' ∧ q'.2.1 = sel q kcL_foresee (fun _ => 0) ∧ (∀ k, q = .inl k → k ∈ [1, 3] ∧ Rel (up (up S 60 (fun _ => q'.2.1)) 73 q'.2.2)) ∧ (∀ u, q = .inr u → q'.1 = u.1 ∧ Rel (up (up (up (up (up (up (up (up (up (up (up (up (up (up (up (up (up (up (up (up (up (up (up (up (up (up S 34 (fun _ => u.2.1)) 35 (fun _ => u.2.2.1)) 32 u.2.2.2.1) 33 u.2.2.2.2.1) 47 (fun _ => u.2.2.2.2.2.1)) 36 u.2.2.2.2.2.2.1) 37 u.2.2.2.2.2.2.2.1) 38 u.2.2.2.2.2.2.2.2.1) 39 u.2.2.2.2.2.2.2.2.2.1) 40 u.2.2.2.2.2.2.2.2.2.2.1) 41 u.2.2.2.2.2.2.2.2.2.2.2.1) 42 u.2.2.2.2.2.2.2.2.2.2.2.2.1) 43 u.2.2.2.2.2.2.2.2.2.2.2.2.2.1) 44 u.2.2.2.2.2.2.2.2.2.2.2.2.2.2.1) 45 u.2.2.2.2.2.2.2.2.2.2.2.2.2.2.2.1) 46 u.2.2.2.2.2.2.2.2.2.2.2.2.2.2.2.2.1) 50 (fun _ => u.2.2.2.2.2.2.2.2.2.2.2.2.2.2.2.2.2.1)) 48 u.2.2.2.2.2.2.2.2.2.2.2.2.2.2.2.2.2.2.1) 49 u.2.2.2.2.2.2.2.2.2.2.2.2.2.2.2.2.2.2.2.1) 55 (fun _ => u.2.2.2.2.2.2.2.2.2.2.2.2.2.2.2.2.2.2.2.2.1)) 51 u.2.2.2.2.2.2.2.2.2.2.2.2.2.2.2.2.2.2.2.2.2.1) 52 u.2.2.2.2.2.2.2.2.2.2.2.2.2.2.2.2.2.2.2.2.2.2.1) 53 u.2.2.2.2.2.2.2.2.2.2.2.2.2.2.2.2.2.2.2.2.2.2.2.1) 54 u.2.2.2.2.2.2.2.2.2.2.2.2.2.2.2.2.2.2.2.2.2.2.2.2) 60 (fun _ => q'.2.1)) 73 q'.2.2)) := by
  have failR : ∀ C : Int32, Rel (up (up S 60 (fun _ => C)) 73 (S 73)) := fun C => Rel_up (k := 73) (f := S 73) rfl (Rel_up (k := 60) (f := fun _ => C) rfl h)
  have hRel := h
  obtain ⟨n, k, w, m, r, κ, hB⟩ := h
  have hC := RB_CR hB
  obtain ⟨⟨s1, s2, s3, s4, s5, s6, s7⟩, ⟨w1, w2⟩, ⟨t1, t2, t3, t4, t5⟩, hW, hR, hS, hP, hQ, hc, hz, hK⟩ := hB
  have hn := hW.1
  have hk := hW.2.1
  have s1' : S 23 0 = nI n := s1
  have s2' : S 65 0 = nI n := s2
  have s3' : S 26 0 = nI k := s3
  have s4' : S 67 0 = nI k := s4
  have s5' : S 5 0 = nI w := s5
  have s6' : S 61 0 = nI w := s6
  have s7' : S 31 0 = nI m := s7
  have w1' : S 63 0 = S 6 0 := w1.symm
  have w2' : S 64 0 = S 7 0 := w2.symm
  rcases a_upto (C := 100) (by omega) a1 with ⟨hh, h1, h2, rfl, c1, c2, e⟩ | ⟨hno, e⟩
  · rcases a_what (c := 4) (C1 := 3) (by omega) (by omega) rfl a2 with ⟨j, hj, rfl, e4, e5⟩ | ⟨e4, e5⟩
    · obtain ⟨co', ro', li', lk', wa', go', pe', st', x', y', p', se', ks', f', s', t', u', f1, gC, gP, gQ⟩ := c_copy (co := S 12) (ro := S 13) (ho := S 10 0) (br := S 11 0) hn hk hC hP hQ (S 34 0) (S 35 0) (S 47 0) (S 50 0) (S 55 0) (S 36) (S 37) (S 38) (S 39) (S 40) (S 41) (S 42) (S 43) (S 44) (S 45) (S 46) (S 48) (S 49) (S 51) (S 52) (S 53) (S 54)
      obtain ⟨A', B, pl2, pd2, wa2, go2, pe2, st2, x2, y2, p2, se2, ks2, m2, qf2, qs2, qt2, qu2, κ2, f2, hH, hC2, hP2, hm2, hQ2⟩ := c_passHours (wx := S 6 0) (wy := S 7 0) (ho := S 10 0) (br := S 11 0) (pl := S 32) (pd := S 33) hS (by omega : hh < 900) hW gC gP gQ
      obtain ⟨v, pc', f3, v0, v1, v2, v3⟩ := r_look (nu := S 72) (pc := S 73) hS.1 (by omega : hh < 900) hW hR hH hj hC2 hP2 hQ2
      have g2 : jX7_foresee (S 60 0) (S 61 0) (S 63 0) (S 64 0) (S 65 0) (S 67 0) (S 62) (S 66) (S 68) (S 69) (S 70) (S 71) (S 72) (S 73) (nI hh) (nI j) = some (v, 0, pc') := by
        unfold jX7_foresee
        rw [show jX7_isIn (nI hh) 1 100 = some 1 from e, bnd_n, if_neg one_ne, e5, bnd_n, if_neg one_ne, s6', w1', w2', s2', s4']
        refine bnd_i f3 rfl
      have fin : ∀ R, jX6_foresee (S 5 0) (S 6 0) (S 7 0) (S 1) (S 2) (S 3) (S 4) (S 10 0) (S 11 0) (S 23 0) (S 12) (S 13) (S 14) (S 15) (S 16) (S 17) (S 18) (S 19) (S 20) (S 21) (S 22) (S 26 0) (S 24) (S 25) (S 31 0) (S 27) (S 28) (S 29) (S 30) (S 34 0) (S 35 0) (S 32) (S 33) (S 47 0) (S 36) (S 37) (S 38) (S 39) (S 40) (S 41) (S 42) (S 43) (S 44) (S 45) (S 46) (S 50 0) (S 48) (S 49) (S 55 0) (S 51) (S 52) (S 53) (S 54) (nI hh) (nI j) = some (.inr (v, R)) → ∃ (q : Nat ⊕ (Int32 × Int32 × Int32 × (Nat → Int32) × (Nat → Int32) × Int32 × (Nat → Int32) × (Nat → Int32) × (Nat → Int32) × (Nat → Int32) × (Nat → Int32) × (Nat → Int32) × (Nat → Int32) × (Nat → Int32) × (Nat → Int32) × (Nat → Int32) × (Nat → Int32) × Int32 × (Nat → Int32) × (Nat → Int32) × Int32 × (Nat → Int32) × (Nat → Int32) × (Nat → Int32) × (Nat → Int32))) (q' : Int32 × Int32 × (Nat → Int32)), jX6_foresee (S 5 0) (S 6 0) (S 7 0) (S 1) (S 2) (S 3) (S 4) (S 10 0) (S 11 0) (S 23 0) (S 12) (S 13) (S 14) (S 15) (S 16) (S 17) (S 18) (S 19) (S 20) (S 21) (S 22) (S 26 0) (S 24) (S 25) (S 31 0) (S 27) (S 28) (S 29) (S 30) (S 34 0) (S 35 0) (S 32) (S 33) (S 47 0) (S 36) (S 37) (S 38) (S 39) (S 40) (S 41) (S 42) (S 43) (S 44) (S 45) (S 46) (S 50 0) (S 48) (S 49) (S 55 0) (S 51) (S 52) (S 53) (S 54) (nI hh) (nI j) = some q ∧ jX7_foresee (S 60 0) (S 61 0) (S 63 0) (S 64 0) (S 65 0) (S 67 0) (S 62) (S 66) (S 68) (S 69) (S 70) (S 71) (S 72) (S 73) (nI hh) (nI j) = some q' ∧ q'.2.1 = sel q kcL_foresee (fun _ => 0) ∧ (∀ k, q = .inl k → k ∈ [1, 3] ∧ Rel (up (up S 60 (fun _ => q'.2.1)) 73 q'.2.2)) ∧ (∀ u, q = .inr u → q'.1 = u.1 ∧ Rel (up (up (up (up (up (up (up (up (up (up (up (up (up (up (up (up (up (up (up (up (up (up (up (up (up (up S 34 (fun _ => u.2.1)) 35 (fun _ => u.2.2.1)) 32 u.2.2.2.1) 33 u.2.2.2.2.1) 47 (fun _ => u.2.2.2.2.2.1)) 36 u.2.2.2.2.2.2.1) 37 u.2.2.2.2.2.2.2.1) 38 u.2.2.2.2.2.2.2.2.1) 39 u.2.2.2.2.2.2.2.2.2.1) 40 u.2.2.2.2.2.2.2.2.2.2.1) 41 u.2.2.2.2.2.2.2.2.2.2.2.1) 42 u.2.2.2.2.2.2.2.2.2.2.2.2.1) 43 u.2.2.2.2.2.2.2.2.2.2.2.2.2.1) 44 u.2.2.2.2.2.2.2.2.2.2.2.2.2.2.1) 45 u.2.2.2.2.2.2.2.2.2.2.2.2.2.2.2.1) 46 u.2.2.2.2.2.2.2.2.2.2.2.2.2.2.2.2.1) 50 (fun _ => u.2.2.2.2.2.2.2.2.2.2.2.2.2.2.2.2.2.1)) 48 u.2.2.2.2.2.2.2.2.2.2.2.2.2.2.2.2.2.2.1) 49 u.2.2.2.2.2.2.2.2.2.2.2.2.2.2.2.2.2.2.2.1) 55 (fun _ => u.2.2.2.2.2.2.2.2.2.2.2.2.2.2.2.2.2.2.2.2.1)) 51 u.2.2.2.2.2.2.2.2.2.2.2.2.2.2.2.2.2.2.2.2.2.1) 52 u.2.2.2.2.2.2.2.2.2.2.2.2.2.2.2.2.2.2.2.2.2.2.1) 53 u.2.2.2.2.2.2.2.2.2.2.2.2.2.2.2.2.2.2.2.2.2.2.2.1) 54 u.2.2.2.2.2.2.2.2.2.2.2.2.2.2.2.2.2.2.2.2.2.2.2.2) 60 (fun _ => q'.2.1)) 73 q'.2.2)) := fun R g1 => by
        refine ⟨_, _, g1, g2, rfl, fun k hk => (by cases hk), fun u hu => ?_⟩
        cases hu
        refine ⟨rfl, ?_⟩
        exact Rel_up rfl (Rel_up rfl (Rel_up rfl (Rel_up rfl (Rel_up rfl (Rel_up rfl (Rel_up rfl (Rel_up rfl (Rel_up rfl (Rel_up rfl (Rel_up rfl (Rel_up rfl (Rel_up rfl (Rel_up rfl (Rel_up rfl (Rel_up rfl (Rel_up rfl (Rel_up rfl (Rel_up rfl (Rel_up rfl (Rel_up rfl (Rel_up rfl (Rel_up rfl (Rel_up rfl (Rel_up rfl (Rel_up rfl hRel)))))))))))))))))))))))))
      have head : jX6_foresee (S 5 0) (S 6 0) (S 7 0) (S 1) (S 2) (S 3) (S 4) (S 10 0) (S 11 0) (S 23 0) (S 12) (S 13) (S 14) (S 15) (S 16) (S 17) (S 18) (S 19) (S 20) (S 21) (S 22) (S 26 0) (S 24) (S 25) (S 31 0) (S 27) (S 28) (S 29) (S 30) (S 34 0) (S 35 0) (S 32) (S 33) (S 47 0) (S 36) (S 37) (S 38) (S 39) (S 40) (S 41) (S 42) (S 43) (S 44) (S 45) (S 46) (S 50 0) (S 48) (S 49) (S 55 0) (S 51) (S 52) (S 53) (S 54) (nI hh) (nI j) = (if nI j = 0 then bnd (jX0_countOf (nI n) st2 0) (fun r4 => some (.inr (r4, S 10 0 + nI hh, S 11 0 + B, pl2, pd2, nI n, co', ro', li', lk', wa2, go2, pe2, st2, x2, y2, p2, nI k, se2, ks2, nI m2, qf2, qs2, qt2, qu2))) else (if nI j = 1 then bnd (jX1_countOf (nI k) ks2 2) (fun r4 => some (.inr (r4, S 10 0 + nI hh, S 11 0 + B, pl2, pd2, nI n, co', ro', li', lk', wa2, go2, pe2, st2, x2, y2, p2, nI k, se2, ks2, nI m2, qf2, qs2, qt2, qu2))) else (if nI j = 2 then bnd (jX0_pieces (nI n) p2) (fun r4 => some (.inr (r4, S 10 0 + nI hh, S 11 0 + B, pl2, pd2, nI n, co', ro', li', lk', wa2, go2, pe2, st2, x2, y2, p2, nI k, se2, ks2, nI m2, qf2, qs2, qt2, qu2))) else some (.inr (nI m2, S 10 0 + nI hh, S 11 0 + B, pl2, pd2, nI n, co', ro', li', lk', wa2, go2, pe2, st2, x2, y2, p2, nI k, se2, ks2, nI m2, qf2, qs2, qt2, qu2))))) := by
        unfold jX6_foresee
        rw [if_neg c1, if_pos (show nI hh ≤ 100 from c2), show jX6_isBelow (nI j) 4 = some 1 from e4, bnd_n, if_neg one_ne, s1', s3', s5', s7']
        refine (bnd_i f1 (bnd_i f2 rfl))
      rcases (by omega : j = 0 ∨ j = 1 ∨ j = 2 ∨ j = 3) with rfl | rfl | rfl | rfl
      · exact fin _ (by rw [head, if_pos (by decide), v0 rfl, bnd_n])
      · exact fin _ (by rw [head, if_neg (by decide), if_pos (by decide), v1 rfl, bnd_n])
      · exact fin _ (by rw [head, if_neg (by decide), if_neg (by decide), if_pos (by decide), v2 rfl, bnd_n])
      · exact fin _ (by rw [head, if_neg (by decide), if_neg (by decide), if_neg (by decide), ← v3 rfl])
    · refine ⟨.inl 3, (0, 2, S 73), ?_, ?_, rfl, fun k hk => ⟨by cases hk; simp, failR _⟩, fun u hu => (by cases hu)⟩
      · unfold jX6_foresee
        rw [if_neg c1, if_pos (show nI hh ≤ 100 from c2), show jX6_isBelow a2 4 = some 0 from e4, bnd_n, if_pos rfl]
      · unfold jX7_foresee
        rw [show jX7_isIn (nI hh) 1 100 = some 1 from e, bnd_n, if_neg one_ne, e5, bnd_n, if_pos rfl, r_fail1, bnd_n]
  · refine ⟨.inl 1, (0, 1, S 73), ?_, ?_, rfl, fun k hk => ⟨by cases hk; simp, failR _⟩, fun u hu => (by cases hu)⟩
    · unfold jX6_foresee
      by_cases c1 : a1 < 1
      · rw [if_pos c1]
      · rw [if_neg c1, if_neg (show ¬ a1 ≤ 100 from hno.resolve_left c1)]
    · unfold jX7_foresee
      rw [show jX7_isIn a1 1 100 = some 0 from e, bnd_n, if_pos rfl, r_fail1, bnd_n]
