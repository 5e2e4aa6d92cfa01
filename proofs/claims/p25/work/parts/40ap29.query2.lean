/-! how firmly; sums of all -/
theorem sim_firm (S : Nat → Nat → Int32) (a1 a2 : Int32) (h : Rel S) : ∃ (q : Nat ⊕ (Int32 × (Nat → Int32) × (Nat → Int32) × (Nat → Int32))) (q' : Int32 × Int32 × (Nat → Int32) × (Nat → Int32) × (Nat → Int32)), jX6_firm (S 23 0) (S 31 0) (S 27) (S 28) (S 56) (S 57) (S 58) a1 a2 = some q ∧ jX7_firm (S 60 0) (S 65 0) (S 69) (S 74) (S 75) (S 76) a1 a2 = some q' ∧ q'.2.1 = sel q kcL_firm (fun _ => 0) ∧ (∀ k, q = .inl k → k ∈ [3] ∧ Rel (up (up (up (up S 60 (fun _ => q'.2.1)) 74 q'.2.2.1) 75 q'.2.2.2.1) 76 q'.2.2.2.2)) ∧ (∀ u, q = .inr u → q'.1 = u.1 ∧ Rel (up (up (up (up (up (up (up S 56 u.2.1) 57 u.2.2.1) 58 u.2.2.2) 60 (fun _ => q'.2.1)) 74 q'.2.2.1) 75 q'.2.2.2.1) 76 q'.2.2.2.2)) := by
  have H : (jX6_firm (S 23 0) (S 31 0) (S 27) (S 28) (S 56) (S 57) (S 58) a1 a2 = some (.inl 3) ∧ ∃ x, jX7_firm (S 60 0) (S 65 0) (S 69) (S 74) (S 75) (S 76) a1 a2 = some (0, 1, x)) ∨ ∃ v x y, jX6_firm (S 23 0) (S 31 0) (S 27) (S 28) (S 56) (S 57) (S 58) a1 a2 = some (.inr (v, x)) ∧ jX7_firm (S 60 0) (S 65 0) (S 69) (S 74) (S 75) (S 76) a1 a2 = some (v, 0, y) := by
    obtain ⟨n, k, w, m, r, κ, hB⟩ := h
    obtain ⟨⟨s1, s2, s3, s4, s5, s6, s7⟩, -, -, hW, hR, hS, -, hQ, -⟩ := hB
    have hn := hW.1
    unfold jX6_firm jX7_firm
    rw [show S 23 0 = nI n from s1, show S 65 0 = nI n from s2, show S 31 0 = nI m from s7]
    rcases a_bar (n := n) (by omega) a1 with ⟨a, ha, rfl, e1, e2⟩ | ⟨e1, e2⟩
    · rw [e1, bnd_n, if_neg one_ne, e2, bnd_n, if_neg one_ne]
      rcases a_bar (n := n) (by omega) a2 with ⟨b, hb, rfl, e1, e2⟩ | ⟨e1, e2⟩
      · rw [e1, bnd_n, if_neg one_ne, e2, bnd_n, if_neg one_ne]
        refine Or.inr ?_
        by_cases hab : a = b
        · subst hab
          rw [if_pos rfl, if_pos rfl]
          exact ⟨-1, _, _, rfl, rfl⟩
        · have hne : ¬ nI a = nI b := fun z => hab ((nI_eq (by omega) (by omega)).mp z)
          obtain ⟨v, us, cb, re, f1, g1, g2⟩ := c_countApart (us := S 56) (cb := S 57) (re := S 58) hn hQ hW.2.2.2.2.1 ha hb hab
          obtain ⟨v', us', fr, li, f2, g3, g4⟩ := r_ways (T := S 69) (us := S 74) (fr := S 75) (li := S 76) hn ha hb hab
          have := MF_one g2 g4
          obtain rfl : v = v' := by omega
          rw [if_neg hne, if_neg hne]
          refine ⟨nI v, (us, cb, re), (us', fr, li), ?_, ?_⟩
          · rw [show jX5_countApart (S 56) (S 57) (S 58) (nI m) (S 27) (S 28) (nI a) (nI b) = some (nI v, us, cb, re) from f1, bnd_n]
          · rw [f2, bnd_n]
      · rw [e1, bnd_n, if_pos rfl, e2, bnd_n, if_pos rfl]
        exact Or.inl ⟨rfl, _, rfl⟩
    · rw [e1, bnd_n, if_pos rfl, e2, bnd_n, if_pos rfl]
      exact Or.inl ⟨rfl, _, rfl⟩
  rcases H with ⟨h1, x, h2⟩ | ⟨v, x, y, h1, h2⟩
  · exact ⟨_, _, h1, h2, rfl, fun k hk => ⟨by cases hk; simp, Rel_up rfl (Rel_up rfl (Rel_up rfl (Rel_up rfl h)))⟩, fun u hu => by cases hu⟩
  · exact ⟨_, _, h1, h2, rfl, fun k hk => (by cases hk), fun u hu => ⟨by cases hu; rfl, Rel_up rfl (Rel_up rfl (Rel_up rfl (Rel_up rfl (Rel_up rfl (Rel_up rfl (Rel_up rfl h))))))⟩⟩
theorem sim_hold (S : Nat → Nat → Int32) (a1 a2 : Int32) (h : Rel S) : ∃ (q : Nat ⊕ (Int32 × (Nat → Int32))) (q' : Int32 × Int32 × (Nat → Int32)), jX6_hold (S 23 0) (S 31 0) (S 27) (S 28) (S 29) (S 30) (S 59) a1 a2 = some q ∧ jX7_hold (S 60 0) (S 65 0) (S 69) (S 70) (S 77) a1 a2 = some q' ∧ q'.2.1 = sel q kcL_hold (fun _ => 0) ∧ (∀ k, q = .inl k → k ∈ [3] ∧ Rel (up (up S 60 (fun _ => q'.2.1)) 77 q'.2.2)) ∧ (∀ u, q = .inr u → q'.1 = u.1 ∧ Rel (up (up (up S 59 u.2) 60 (fun _ => q'.2.1)) 77 q'.2.2)) := by
  have H : (jX6_hold (S 23 0) (S 31 0) (S 27) (S 28) (S 29) (S 30) (S 59) a1 a2 = some (.inl 3) ∧ ∃ x, jX7_hold (S 60 0) (S 65 0) (S 69) (S 70) (S 77) a1 a2 = some (0, 1, x)) ∨ ∃ v x y, jX6_hold (S 23 0) (S 31 0) (S 27) (S 28) (S 29) (S 30) (S 59) a1 a2 = some (.inr (v, x)) ∧ jX7_hold (S 60 0) (S 65 0) (S 69) (S 70) (S 77) a1 a2 = some (v, 0, y) := by
    obtain ⟨n, k, w, m, r, κ, hB⟩ := h
    obtain ⟨⟨s1, s2, s3, s4, s5, s6, s7⟩, -, -, hW, hR, hS, -, hQ, -⟩ := hB
    have hn := hW.1
    unfold jX6_hold jX7_hold
    rw [show S 23 0 = nI n from s1, show S 65 0 = nI n from s2, show S 31 0 = nI m from s7]
    rcases a_bar (n := n) (by omega) a1 with ⟨a, ha, rfl, e1, e2⟩ | ⟨e1, e2⟩
    · rw [e1, bnd_n, if_neg one_ne, e2, bnd_n, if_neg one_ne]
      rcases a_bar (n := n) (by omega) a2 with ⟨b, hb, rfl, e1, e2⟩ | ⟨e1, e2⟩
      · rw [e1, bnd_n, if_neg one_ne, e2, bnd_n, if_neg one_ne]
        refine Or.inr ?_
        by_cases hab : a = b
        · subst hab
          rw [if_pos rfl]
          refine ⟨0, _, S 77, rfl, ?_⟩
          have : jX7_hold_L29 (nI n) (S 69) (S 70) (nI a) (nI a) FU (S 77) 0 = some (S 77, 0) := by
            unfold FU
            rw [jX7_hold_L29, if_pos rfl]
          rw [this, bnd_n]
        · have hne : ¬ nI a = nI b := fun z => hab ((nI_eq (by omega) (by omega)).mp z)
          obtain ⟨be, v, f1, g1⟩ := c_strongest (be := S 59) hn hQ hW.2.2.2.2.1 hW.2.2.2.2.2.2 ha hb
          obtain ⟨is', v', f2, g2⟩ := r_holdL (T := S 69) (U := S 70) hn ha hb hab FU 0 (S 77) (by omega) (by unfold FU; omega) (fun i h1 h2 => by omega)
          obtain rfl := HO_one g1 g2
          rw [if_neg hne]
          refine ⟨nI v, be, is', ?_, ?_⟩
          · rw [show jX5_strongest (S 59) (nI m) (S 27) (S 28) (S 29) (S 30) (nI a) (nI b) = some (nI v, be) from f1, bnd_n]
          · rw [show jX7_hold_L29 (nI n) (S 69) (S 70) (nI a) (nI b) FU (S 77) 0 = some (is', nI v) from f2, bnd_n]
      · rw [e1, bnd_n, if_pos rfl, e2, bnd_n, if_pos rfl]
        exact Or.inl ⟨rfl, _, rfl⟩
    · rw [e1, bnd_n, if_pos rfl, e2, bnd_n, if_pos rfl]
      exact Or.inl ⟨rfl, _, rfl⟩
  rcases H with ⟨h1, x, h2⟩ | ⟨v, x, y, h1, h2⟩
  · exact ⟨_, _, h1, h2, rfl, fun k hk => ⟨by cases hk; simp, Rel_up rfl (Rel_up rfl h)⟩, fun u hu => by cases hu⟩
  · exact ⟨_, _, h1, h2, rfl, fun k hk => (by cases hk), fun u hu => ⟨by cases hu; rfl, Rel_up rfl (Rel_up rfl (Rel_up rfl h))⟩⟩
section PieceS
variable {n k : Nat} {A : Nat → Nat → Int32} {li lk wa go pe st x y se ks p p' fx tb T U pp : Nat → Int32} {P : Int32}
/-- the sums of a piece -/
theorem b_psum (hW : WA n k A) (hC : CR n k A li lk wa go pe st x y se ks) (hR : RM n k A fx tb T U pp) (hpp : ∀ j, j < n → p' j = p j) {what : Nat} (hw : what < 4) : ∃ v, jX6_pieceSum (nI n) li wa go pe p P (nI what) = some v ∧ jX7_sumIn (nI n) (nI k) fx tb pp p' P (nI what) = some v := by
  have hn := hW.1
  have hk := hW.2.1
  have key : ∀ G : Nat → Int32, (∀ (f : Nat) (acc : Int32) (j : Nat), j < n → p j = P → jX6_pieceSum_L14 (nI n) li wa go pe p P (nI what) (f + 1) acc (nI j) = jX6_pieceSum_L14 (nI n) li wa go pe p P (nI what) f (acc + G j) (nI (j + 1))) → jX6_pieceSum (nI n) li wa go pe p P (nI what) = some (fs (fun j => if p j = P then G j else 0) n) := fun G hG => by
    refine bnd_i (itF0 (fun g s v => jX6_pieceSum_L14 (nI n) li wa go pe p P (nI what) g s v) (fs (fun j => if p j = P then G j else 0)) n (by omega) rfl (fun g => ?_) (fun g j hj => ?_)) rfl
    · rw [jX6_pieceSum_L14, if_pos (Int32.le_refl _)]
    · by_cases e : p j = P
      · rw [hG g _ j hj e, fs, if_pos e]
      · rw [jX6_pieceSum_L14, if_neg (fun z => by have := (nI_leI (by omega) (by omega)).mp z; omega), chk_n (by omega) (by omega), rd_n (by omega), if_neg e, nI_1, fs, if_neg e, Int32.add_zero]
  have head : ∀ (f : Nat) (acc : Int32) (j : Nat), j < n → p j = P → jX6_pieceSum_L14 (nI n) li wa go pe p P (nI what) (f + 1) acc (nI j) = (if nI what = 0 then jX6_pieceSum_L14 (nI n) li wa go pe p P (nI what) f (acc + 1) (nI j + 1) else (if nI what = 1 then bnd (jX0_liftNow li wa (nI j)) (fun r1 => jX6_pieceSum_L14 (nI n) li wa go pe p P (nI what) f (acc + r1) (nI j + 1)) else (if nI what = 2 then bnd (jX0_loadOf go pe (nI j)) (fun r2 => jX6_pieceSum_L14 (nI n) li wa go pe p P (nI what) f (acc + r2) (nI j + 1)) else chk 24 (nI j) (jX6_pieceSum_L14 (nI n) li wa go pe p P (nI what) f (acc + (rd pe (nI j))) (nI j + 1))))) := fun f acc j hj e => by
    rw [jX6_pieceSum_L14, if_neg (fun z => by have := (nI_leI (by omega) (by omega)).mp z; omega), chk_n (by omega) (by omega), rd_n (by omega), if_pos e]
  have hpL : LD n A p' P = LD n A p P := fs_congr fun j hj => by rw [hpp j hj]
  have hpF : LF n A p' P = LF n A p P := fs_congr fun j hj => by rw [hpp j hj]
  rcases (by omega : what = 0 ∨ what = 1 ∨ what = 2 ∨ what = 3) with rfl | rfl | rfl | rfl
  · refine ⟨_, key (fun _ => 1) (fun f acc j hj e => by rw [head f acc j hj e, if_pos (by decide), nI_1]), ?_⟩
    refine bnd_i (itF0 (fun g s v => jX7_sumIn_L5 (nI n) (nI k) fx tb pp p' P (nI 0) g s v) (fs (fun j => if p j = P then 1 else 0)) n (by omega) rfl (fun g => ?_) (fun g j hj => ?_)) rfl
    · rw [jX7_sumIn_L5, if_pos (Int32.le_refl _)]
    · rw [jX7_sumIn_L5, if_neg (fun z => by have := (nI_leI (by omega) (by omega)).mp z; omega), chk_n (by omega) (by omega), rd_n (by omega), hpp j hj, nI_1, fs]
      by_cases e : p j = P
      · rw [if_pos e, if_pos (by decide), if_pos e]
      · rw [if_neg e, if_neg e, Int32.add_zero]
  · refine ⟨LF n A p P, ?_, ?_⟩
    · exact key (lf A) (fun f acc j hj e => by rw [head f acc j hj e, if_neg (by decide), if_pos (by decide), cr_lift hC hn hj, bnd_n, nI_1])
    · rw [← hpF]; exact r_sumLift hR hn
  · refine ⟨LD n A p P, ?_, ?_⟩
    · exact key (ld A) (fun f acc j hj e => by rw [head f acc j hj e, if_neg (by decide), if_neg (by decide), if_pos (by decide), cr_load hC hn hj, bnd_n, nI_1])
    · rw [← hpL]; exact r_sumLoad hR hn hk (fun b hb _ => (hW.2.2.1 b hb).2.2.2)
  · refine ⟨fs (fun j => if p j = P then A kB_people j else 0) n, ?_, ?_⟩
    · exact key (A kB_people) (fun f acc j hj e => by rw [head f acc j hj e, if_neg (by decide), if_neg (by decide), if_neg (by decide), chk_n (by omega) (by omega), rd_n (by omega), (hC.1 j hj).2.2.2.2.1, nI_1])
    · refine bnd_i (itF0 (fun g s v => jX7_sumIn_L5 (nI n) (nI k) fx tb pp p' P (nI 3) g s v) (fs (fun j => if p j = P then A kB_people j else 0)) n (by omega) rfl (fun g => ?_) (fun g j hj => ?_)) rfl
      · rw [jX7_sumIn_L5, if_pos (Int32.le_refl _)]
      · rw [jX7_sumIn_L5, if_neg (fun z => by have := (nI_leI (by omega) (by omega)).mp z; omega), chk_n (by omega) (by omega), rd_n (by omega), hpp j hj, nI_1, fs]
        by_cases e : p j = P
        · rw [if_pos e, if_neg (by decide), if_neg (by decide), if_neg (by decide), r_crew hR hk, bnd_n, if_pos e, (hW.2.2.1 j hj).2.2.2]
        · rw [if_neg e, if_neg e, Int32.add_zero]
end PieceS
theorem sim_piece (S : Nat → Nat → Int32) (a1 a2 : Int32) (h : Rel S) : ∃ (q : Nat ⊕ (Int32 × (Nat → Int32) × (Nat → Int32) × (Nat → Int32))) (q' : Int32 × Int32 × (Nat → Int32) × (Nat → Int32)), jX6_piece (S 23 0) (S 14) (S 16) (S 17) (S 18) (S 22) (S 31 0) (S 27) (S 28) (S 56) (S 57) (S 58) a1 a2 = some q ∧ jX7_piece (S 60 0) (S 65 0) (S 67 0) (S 66) (S 68) (S 69) (S 70) (S 71) (S 73) (S 77) a1 a2 = some q' ∧ q'.2.1 = sel q kcL_piece (fun _ => 0) ∧ (∀ k, q = .inl k → k ∈ [3] ∧ Rel (up (up (up S 60 (fun _ => q'.2.1)) 73 q'.2.2.1) 77 q'.2.2.2)) ∧ (∀ u, q = .inr u → q'.1 = u.1 ∧ Rel (up (up (up (up (up (up S 56 u.2.1) 57 u.2.2.1) 58 u.2.2.2) 60 (fun _ => q'.2.1)) 73 q'.2.2.1) 77 q'.2.2.2)) := by
  have H : (jX6_piece (S 23 0) (S 14) (S 16) (S 17) (S 18) (S 22) (S 31 0) (S 27) (S 28) (S 56) (S 57) (S 58) a1 a2 = some (.inl 3) ∧ ∃ x, jX7_piece (S 60 0) (S 65 0) (S 67 0) (S 66) (S 68) (S 69) (S 70) (S 71) (S 73) (S 77) a1 a2 = some (0, 1, x)) ∨ ∃ v x y, jX6_piece (S 23 0) (S 14) (S 16) (S 17) (S 18) (S 22) (S 31 0) (S 27) (S 28) (S 56) (S 57) (S 58) a1 a2 = some (.inr (v, x)) ∧ jX7_piece (S 60 0) (S 65 0) (S 67 0) (S 66) (S 68) (S 69) (S 70) (S 71) (S 73) (S 77) a1 a2 = some (v, 0, y) := by
    obtain ⟨n, k, w, m, r, κ, hB⟩ := h
    have hC := RB_CR hB
    obtain ⟨⟨s1, s2, s3, s4, s5, s6, s7⟩, -, -, hW, hR, hS, hP, hQ, -⟩ := hB
    have hn := hW.1
    unfold jX6_piece jX7_piece
    rw [show S 23 0 = nI n from s1, show S 65 0 = nI n from s2, show S 31 0 = nI m from s7, show S 67 0 = nI k from s4]
    rcases a_bar (n := n) (by omega) a1 with ⟨b, hb, rfl, e1, e2⟩ | ⟨e1, e2⟩
    · rw [e1, bnd_n, if_neg one_ne, e2, bnd_n, if_neg one_ne]
      rcases a_what (c := 5) (C1 := 4) (by omega) (by omega) rfl a2 with ⟨j, hj, rfl, e4, e5⟩ | ⟨e4, e5⟩
      · rw [show jX6_isBelow (nI j) 5 = some 1 from e4, bnd_n, if_neg one_ne, e5, bnd_n, if_neg one_ne]
        obtain ⟨q, f1, hq⟩ := r_nameA (p0 := S 73) hW hR
        rw [f1, bnd_n, chk_n (by omega) (by omega), chk_n (by omega) (by omega), chk_n (by omega) (by omega), rd_n (by omega), rd_n (by omega)]
        have hqp := POK_one hn hq hP
        rw [hqp b hb]
        refine Or.inr ?_
        by_cases hs : S kB_state b = 0
        · obtain ⟨i, h1, h2, -⟩ := hP.1 b hb hs
          have h2' : S 22 b = nI i := h2
          rw [h2', if_pos (n_nonneg (by omega)), if_neg (n_m1 (by omega))]
          by_cases hj4 : j = 4
          · subst hj4
            obtain ⟨G, hG⟩ := brs_ex n (S 69) (S 70) (S 22) (nI i)
            have hG' : brs n (S 69) (S 70) q (nI i) G := fun z hz => by
              have : ∀ (hh : 0 < S 69 z), q (z / 24) = S 22 (z / 24) := fun hh => by
                obtain ⟨c, d, k1, k2, k3, -⟩ := hW.2.2.2.2.1 z hz (i_pos_ne hh)
                exact hqp _ (by omega)
              refine ⟨fun ⟨y1, y2, y3⟩ => (hG z hz).1 ⟨y1, by rw [← this y1]; exact y2, y3⟩, fun y => (hG z hz).2 (fun ⟨y1, y2, y3⟩ => y ⟨y1, by rw [this y1]; exact y2, y3⟩)⟩
            obtain ⟨us, cb, re, g1⟩ := c_single (us := S 56) (cb := S 57) (re := S 58) hn hQ hW.2.2.2.2.1 hW.2.2.2.2.2.2 hG
            obtain ⟨is', g2⟩ := r_single (is := S 77) hn hW.2.2.2.2.1 hG' hb ((hqp b hb).trans h2)
            rw [if_pos (by decide), if_pos (by decide)]
            refine ⟨fs G 576, (us, cb, re), (q, is'), ?_, ?_⟩
            · rw [show jX6_singleLashings (S 22) (nI m) (S 27) (S 28) (S 56) (S 57) (S 58) (nI i) = some (fs G 576, us, cb, re) from g1, bnd_n]
            · rw [show jX7_piece_L66 (nI n) (S 69) (S 70) q (nI b) FU (S 77) 0 0 = some (is', fs G 576) from g2, bnd_n]
          · obtain ⟨v, g1, g2⟩ := b_psum (p := S 22) (p' := q) (P := nI i) hW hC hR hqp (by omega : j < 4)
            rw [if_neg (show ¬ nI j = 4 from fun z => hj4 ((nI_eq (b := 4) (by omega) (by omega)).mp z)), if_neg (show ¬ (4 : Int32) ≤ nI j from fun z => by have := (nI_leI (a := 4) (by omega) (by omega)).mp z; omega)]
            refine ⟨v, (S 56, S 57, S 58), (q, S 77), ?_, ?_⟩
            · rw [show jX6_pieceSum (nI n) (S 14) (S 16) (S 17) (S 18) (S 22) (nI i) (nI j) = some v from g1, bnd_n]
            · rw [show jX7_sumIn (nI n) (nI k) (S 66) (S 68) (S 71) q (nI i) (nI j) = some v from g2, bnd_n]
        · have h2' : S 22 b = -1 := hP.2.2 b hb hs
          rw [h2', if_neg (by decide), if_pos rfl]
          exact ⟨0, _, _, rfl, rfl⟩
      · rw [show jX6_isBelow a2 5 = some 0 from e4, bnd_n, if_pos rfl, e5, bnd_n, if_pos rfl]
        exact Or.inl ⟨rfl, _, rfl⟩
    · rw [e1, bnd_n, if_pos rfl, e2, bnd_n, if_pos rfl]
      exact Or.inl ⟨rfl, _, rfl⟩
  rcases H with ⟨h1, x, h2⟩ | ⟨v, x, y, h1, h2⟩
  · exact ⟨_, _, h1, h2, rfl, fun k hk => ⟨by cases hk; simp, Rel_up rfl (Rel_up rfl (Rel_up rfl h))⟩, fun u hu => by cases hu⟩
  · exact ⟨_, _, h1, h2, rfl, fun k hk => (by cases hk), fun u hu => ⟨by cases hu; rfl, Rel_up rfl (Rel_up rfl (Rel_up rfl (Rel_up rfl (Rel_up rfl (Rel_up rfl h)))))⟩⟩
theorem fo_eq {σ : Type} {g : Nat → σ → σ} {n : Nat} {s : σ} : fo g (n + 1) s = g n (fo g n s) := rfl
