/-! how firmly; sums of all -/
theorem sim_firm (S : Nat → Nat → Int32) (a1 a2 : Int32) (h : Rel S) : ∃ (q : Nat ⊕ (Int32 × (Nat → Int32) × (Nat → Int32) × (Nat → Int32))) (q' : Int32 × Int32 × (Nat → Int32) × (Nat → Int32) × (Nat → Int32)), jX6_firm (S 23 0) (S 31 0) (S 27) (S 28) (S 56) (S 57) (S 58) a1 a2 = some q ∧ jX7_firm (S 60 0) (S 65 0) (S 69) (S 74) (S 75) (S 76) a1 a2 = some q' ∧ q'.2.1 = sel q kcL_firm (fun _ => 0) ∧ (∀ k, q = .inl k → k ∈ [3] ∧ Rel (up (up (up (up S 60 (fun _ => q'.2.1)) 74 q'.2.2.1) 75 q'.2.2.2.1) 76 q'.2.2.2.2)) ∧ (∀ u, q = .inr u → q'.1 = u.1 ∧ Rel (up (up (up (up (up (up (up S 56 u.2.1) 57 u.2.2.1) 58 u.2.2.2) 60 (fun _ => q'.2.1)) 74 q'.2.2.1) 75 q'.2.2.2.1) 76 q'.2.2.2.2)) := by
  have H : (jX6_firm (S 23 0) (S 31 0) (S 27) (S 28) (S 56) (S 57) (S 58) a1 a2 = some (.inl 3) ∧ ∃ x, jX7_firm (S 60 0) (S 65 0) (S 69) (S 74) (S 75) (S 76) a1 a2 = some (0, 1, x)) ∨ ∃ v x y, jX6_firm (S 23 0) (S 31 0) (S 27) (S 28) (S 56) (S 57) (S 58) a1 a2 = some (.inr (v, x)) ∧ jX7_firm (S 60 0) (S 65 0) (S 69) (S 74) (S 75) (S 76) a1 a2 = some (v, 0, y) := by
    obtain ⟨n, k, w, m, r, κ, hB⟩ := h
    obtain ⟨⟨s1, s2, s3, s4, s5, s6, s7⟩, -, -, hW, hR, hS, -, hQ, -⟩ := hB
    have hn := hW.1
    unfold jX6_firm jX7_firm
    rw [show S 23 0 = nI n from s1, show S 65 0 = nI n from s2, show S 31 0 = nI m from s7]
    rcases a_bar (n := n) (by omega) a1 with ⟨a, ha, rfl, e1, e2⟩ | ⟨e1, e2⟩
    · rw [e1, bnd_n, if_neg one_ne, e2, bnd_n, if_neg one_ne]
      rcases a_bar (n := n) (by omega) a2 with ⟨b, hb, rfl, e1, e2⟩ | ⟨e1, e2⟩
      · rw [e1, bnd_n, if_neg one_ne, e2, bnd_n, if_neg one_ne]
        refine Or.inr ?_
        by_cases hab : a = b
        · subst hab
          rw [if_pos rfl, if_pos rfl]
          exact ⟨-1, _, _, rfl, rfl⟩
        · have hne : ¬ nI a = nI b := fun z => hab ((nI_eq (by omega) (by omega)).mp z)
          obtain ⟨v, us, cb, re, f1, g1, g2⟩ := c_countApart (us := S 56) (cb := S 57) (re := S 58) hn hQ hW.2.2.2.2.1 ha hb hab
          obtain ⟨v', us', fr, li, f2, g3, g4⟩ := r_ways (T := S 69) (us := S 74) (fr := S 75) (li := S 76) hn ha hb hab
          have := MF_one g2 g4
          obtain rfl : v = v' := by omega
          rw [if_neg hne, if_neg hne]
          refine ⟨nI v, (us, cb, re), (us', fr, li), ?_, ?_⟩
          · rw [show jX5_countApart (S 56) (S 57) (S 58) (nI m) (S 27) (S 28) (nI a) (nI b) = some (nI v, us, cb, re) from f1, bnd_n]
          · rw [f2, bnd_n]
      · rw [e1, bnd_n, if_pos rfl, e2, bnd_n, if_pos rfl]
        exact Or.inl ⟨rfl, _, rfl⟩
    · rw [e1, bnd_n, if_pos rfl, e2, bnd_n, if_pos rfl]
      exact Or.inl ⟨rfl, _, rfl⟩
  rcases H with ⟨h1, x, h2⟩ | ⟨v, x, y, h1, h2⟩
  · exact ⟨_, _, h1, h2, rfl, fun k hk => ⟨by cases hk; simp, Rel_up rfl (Rel_up rfl (Rel_up rfl (Rel_up rfl h)))⟩, fun u hu => by cases hu⟩
  · exact ⟨_, _, h1, h2, rfl, fun k hk => (by cases hk), fun u hu => ⟨by cases hu; rfl, Rel_up rfl (Rel_up rfl (Rel_up rfl (Rel_up rfl (Rel_up rfl (Rel_up rfl (Rel_up rfl h))))))⟩⟩
theorem sim_hold (S : Nat → Nat → Int32) (a1 a2 : Int32) (h : Rel S) : ∃ (q : Nat ⊕ (Int32 × (Nat → Int32))) (q' : Int32 × Int32 × (Nat → Int32)), jX6_hold (S 23 0) (S 31 0) (S 27) (S 28) (S 29) (S 30) (S 59) a1 a2 = some q ∧ jX7_hold (S 60 0) (S 65 0) (S 69) (S 70) (S 77) a1 a2 = some q' ∧ q'.2.1 = sel q kcL_hold (fun _ => 0) ∧ (∀ k, q = .inl k → k ∈ [3] ∧ Rel (up (up S 60 (fun _ => q'.2.1)) 77 q'.2.2)) ∧ (∀ u, q = .inr u → q'.1 = u.1 ∧ Rel (up (up (up S 59 u.2) 60 (fun _ => q'.2.1)) 77 q'.2.2)) := by
  have H : (jX6_hold (S 23 0) (S 31 0) (S 27) (S 28) (S 29) (S 30) (S 59) a1 a2 = some (.inl 3) ∧ ∃ x, jX7_hold (S 60 0) (S 65 0) (S 69) (S 70) (S 77) a1 a2 = some (0, 1, x)) ∨ ∃ v x y, jX6_hold (S 23 0) (S 31 0) (S 27) (S 28) (S 29) (S 30) (S 59) a1 a2 = some (.inr (v, x)) ∧ jX7_hold (S 60 0) (S 65 0) (S 69) (S 70) (S 77) a1 a2 = some (v, 0, y) := by
    obtain ⟨n, k, w, m, r, κ, hB⟩ := h
    obtain ⟨⟨s1, s2, s3, s4, s5, s6, s7⟩, -, -, hW, hR, hS, -, hQ, -⟩ := hB
    have hn := hW.1
    unfold jX6_hold jX7_hold
    rw [show S 23 0 = nI n from s1, show S 65 0 = nI n from s2, show S 31 0 = nI m from s7]
    rcases a_bar (n := n) (by omega) a1 with ⟨a, ha, rfl, e1, e2⟩ | ⟨e1, e2⟩
    · rw [e1, bnd_n, if_neg one_ne, e2, bnd_n, if_neg one_ne]
      rcases a_bar (n := n) (by omega) a2 with ⟨b, hb, rfl, e1, e2⟩ | ⟨e1, e2⟩
      · rw [e1, bnd_n, if_neg one_ne, e2, bnd_n, if_neg one_ne]
        refine Or.inr ?_
        by_cases hab : a = b
        · subst hab
          rw [if_pos rfl]
          refine ⟨0, _, S 77, rfl, ?_⟩
          have : jX7_hold_L29 (nI n) (S 69) (S 70) (nI a) (nI a) FU (S 77) 0 = some (S 77, 0) := by
            unfold FU
            rw [jX7_hold_L29, if_pos rfl]
          rw [this, bnd_n]
        · have hne : ¬ nI a = nI b := fun z => hab ((nI_eq (by omega) (by omega)).mp z)
          obtain ⟨be, v, f1, g1⟩ := c_strongest (be := S 59) hn hQ hW.2.2.2.2.1 hW.2.2.2.2.2.2 ha hb
          obtain ⟨is', v', f2, g2⟩ := r_holdL (T := S 69) (U := S 70) hn ha hb hab FU 0 (S 77) (by omega) (by unfold FU; omega) (fun i h1 h2 => by omega)
          obtain rfl := HO_one g1 g2
          rw [if_neg hne]
          refine ⟨nI v, be, is', ?_, ?_⟩
          · rw [show jX5_strongest (S 59) (nI m) (S 27) (S 28) (S 29) (S 30) (nI a) (nI b) = some (nI v, be) from f1, bnd_n]
          · rw [show jX7_hold_L29 (nI n) (S 69) (S 70) (nI a) (nI b) FU (S 77) 0 = some (is', nI v) from f2, bnd_n]
      · rw [e1, bnd_n, if_pos rfl, e2, bnd_n, if_pos rfl]
        exact Or.inl ⟨rfl, _, rfl⟩
    · rw [e1, bnd_n, if_pos rfl, e2, bnd_n, if_pos rfl]
      exact Or.inl ⟨rfl, _, rfl⟩
  rcases H with ⟨h1, x, h2⟩ | ⟨v, x, y, h1, h2⟩
  · exact ⟨_, _, h1, h2, rfl, fun k hk => ⟨by cases hk; simp, Rel_up rfl (Rel_up rfl h)⟩, fun u hu => by cases hu⟩
  · exact ⟨_, _, h1, h2, rfl, fun k hk => (by cases hk), fun u hu => ⟨by cases hu; rfl, Rel_up rfl (Rel_up rfl (Rel_up rfl h))⟩⟩
section PieceS
variable {n k : Nat} {A : Nat → Nat → Int32} {li lk wa go pe st x y se ks p p' fx tb T U pp : Nat → Int32} {P : Int32}
/-- the sums of a piece -/
theorem b_psum (hW : WA n k A) (hC : CR n k A li lk wa go pe st x y se ks) (hR : RM n k A fx tb T U pp) (hpp : ∀ j, j < n → p' j = p j) {what : Nat} (hw : what < 4) : ∃ v, jX6_pieceSum (nI n) li wa go pe p P (nI what) = some v ∧ jX7_sumIn (nI n) (nI k) fx tb pp p' P (nI what) = some v := by
  have hn := hW.1
  have hk := hW.2.1
  have key : ∀ G : Nat → Int32, (∀ (f : Nat) (acc : Int32) (j : Nat), j < n → p j = P → jX6_pieceSum_L14 (nI n) li wa go pe p P (nI what) (f + 1) acc (nI j) = jX6_pieceSum_L14 (nI n) li wa go pe p P (nI what) f (acc + G j) (nI (j + 1))) → jX6_pieceSum (nI n) li wa go pe p P (nI what) = some (fs (fun j => if p j = P then G j else 0) n) := fun G hG => by
    refine bnd_i (itF0 (fun g s v => jX6_pieceSum_L14 (nI n) li wa go pe p P (nI what) g s v) (fs (fun j => if p j = P then G j else 0)) n (by omega) rfl (fun g => ?_) (fun g j hj => ?_)) rfl
    · rw [jX6_pieceSum_L14, if_pos (Int32.le_refl _)]
    · by_cases e : p j = P
      · rw [hG g _ j hj e, fs, if_pos e]
      · rw [jX6_pieceSum_L14, if_neg (fun z => by have := (nI_leI (by omega) (by omega)).mp z; omega), chk_n (by omega) (by omega), rd_n (by omega), if_neg e, nI_1, fs, if_neg e, Int32.add_zero]
  have head : ∀ (f : Nat) (acc : Int32) (j : Nat), j < n → p j = P → jX6_pieceSum_L14 (nI n) li wa go pe p P (nI what) (f + 1) acc (nI j) = (if nI what = 0 then jX6_pieceSum_L14 (nI n) li wa go pe p P (nI what) f (acc + 1) (nI j + 1) else (if nI what = 1 then bnd (jX0_liftNow li wa (nI j)) (fun r1 => jX6_pieceSum_L14 (nI n) li wa go pe p P (nI what) f (acc + r1) (nI j + 1)) else (if nI what = 2 then bnd (jX0_loadOf go pe (nI j)) (fun r2 => jX6_pieceSum_L14 (nI n) li wa go pe p P (nI what) f (acc + r2) (nI j + 1)) else chk 24 (nI j) (jX6_pieceSum_L14 (nI n) li wa go pe p P (nI what) f (acc + (rd pe (nI j))) (nI j + 1))))) := fun f acc j hj e => by
    rw [jX6_pieceSum_L14, if_neg (fun z => by have := (nI_leI (by omega) (by omega)).mp z; omega), chk_n (by omega) (by omega), rd_n (by omega), if_pos e]
  have hpL : LD n A p' P = LD n A p P := fs_congr fun j hj => by rw [hpp j hj]
  have hpF : LF n A p' P = LF n A p P := fs_congr fun j hj => by rw [hpp j hj]
  rcases (by omega : what = 0 ∨ what = 1 ∨ what = 2 ∨ what = 3) with rfl | rfl | rfl | rfl
  · refine ⟨_, key (fun _ => 1) (fun f acc j hj e => by rw [head f acc j hj e, if_pos (by decide), nI_1]), ?_⟩
    refine bnd_i (itF0 (fun g s v => jX7_sumIn_L5 (nI n) (nI k) fx tb pp p' P (nI 0) g s v) (fs (fun j => if p j = P then 1 else 0)) n (by omega) rfl (fun g => ?_) (fun g j hj => ?_)) rfl
    · rw [jX7_sumIn_L5, if_pos (Int32.le_refl _)]
    · rw [jX7_sumIn_L5, if_neg (fun z => by have := (nI_leI (by omega) (by omega)).mp z; omega), chk_n (by omega) (by omega), rd_n (by omega), hpp j hj, nI_1, fs]
      by_cases e : p j = P
      · rw [if_pos e, if_pos (by decide), if_pos e]
      · rw [if_neg e, if_neg e, Int32.add_zero]
  · refine ⟨LF n A p P, ?_, ?_⟩
    · exact key (lf A) (fun f acc j hj e => by rw [head f acc j hj e, if_neg (by decide), if_pos (by decide), cr_lift hC hn hj, bnd_n, nI_1])
    · rw [← hpF]; exact r_sumLift hR hn
  · refine ⟨LD n A p P, ?_, ?_⟩
    · exact key (ld A) (fun f acc j hj e => by rw [head f acc j hj e, if_neg (by decide), if_neg (by decide), if_pos (by decide), cr_load hC hn hj, bnd_n, nI_1])
    · rw [← hpL]; exact r_sumLoad hR hn hk (fun b hb _ => (hW.2.2.1 b hb).2.2.2)
  · refine ⟨fs (fun j => if p j = P then A kB_people j else 0) n, ?_, ?_⟩
    · exact key (A kB_people) (fun f acc j hj e => by rw [head f acc j hj e, if_neg (by decide), if_neg (by decide), if_neg (by decide), chk_n (by omega) (by omega), rd_n (by omega), (hC.1 j hj).2.2.2.2.1, nI_1])
    · refine bnd_i (itF0 (fun g s v => jX7_sumIn_L5 (nI n) (nI k) fx tb pp p' P (nI 3) g s v) (fs (fun j => if p j = P then A kB_people j else 0)) n (by omega) rfl (fun g => ?_) (fun g j hj => ?_)) rfl
      · rw [jX7_sumIn_L5, if_pos (Int32.le_refl _)]
      · rw [jX7_sumIn_L5, if_neg (fun z => by have := (nI_leI (by omega) (by omega)).mp z; omega), chk_n (by omega) (by omega), rd_n (by omega), hpp j hj, nI_1, fs]
        by_cases e : p j = P
        · rw [if_pos e, if_neg (by decide), if_neg (by decide), if_neg (by decide), r_crew hR hk, bnd_n, if_pos e, (hW.2.2.1 j hj).2.2.2]
        · rw [if_neg e, if_neg e, Int32.add_zero]
end PieceS
theorem sim_piece (S : Nat → Nat → Int32) (a1 a2 : Int32) (h : Rel S) : ∃ (q : Nat ⊕ (Int32 × (Nat → Int32) × (Nat → Int32) × (Nat → Int32))) (q' : Int32 × Int32 × (Nat → Int32) × (Nat → Int32)), jX6_piece (S 23 0) (S 14) (S 16) (S 17) (S 18) (S 22) (S 31 0) (S 27) (S 28) (S 56) (S 57) (S 58) a1 a2 = some q ∧ jX7_piece (S 60 0) (S 65 0) (S 67 0) (S 66) (S 68) (S 69) (S 70) (S 71) (S 73) (S 77) a1 a2 = some q' ∧ q'.2.1 = sel q kcL_piece (fun _ => 0) ∧ (∀ k, q = .inl k → k ∈ [3] ∧ Rel (up (up (up S 60 (fun _ => q'.2.1)) 73 q'.2.2.1) 77 q'.2.2.2)) ∧ (∀ u, q = .inr u → q'.1 = u.1 ∧ Rel (up (up (up (up (up (up S 56 u.2.1) 57 u.2.2.1) 58 u.2.2.2) 60 (fun _ => q'.2.1)) 73 q'.2.2.1) 77 q'.2.2.2)) := by
  have H : (jX6_piece (S 23 0) (S 14) (S 16) (S 17) (S 18) (S 22) (S 31 0) (S 27) (S 28) (S 56) (S 57) (S 58) a1 a2 = some (.inl 3) ∧ ∃ x, jX7_piece (S 60 0) (S 65 0) (S 67 0) (S 66) (S 68) (S 69) (S 70) (S 71) (S 73) (S 77) a1 a2 = some (0, 1, x)) ∨ ∃ v x y, jX6_piece (S 23 0) (S 14) (S 16) (S 17) (S 18) (S 22) (S 31 0) (S 27) (S 28) (S 56) (S 57) (S 58) a1 a2 = some (.inr (v, x)) ∧ jX7_piece (S 60 0) (S 65 0) (S 67 0) (S 66) (S 68) (S 69) (S 70) (S 71) (S 73) (S 77) a1 a2 = some (v, 0, y) := by
    obtain ⟨n, k, w, m, r, κ, hB⟩ := h
    have hC := RB_CR hB
    obtain ⟨⟨s1, s2, s3, s4, s5, s6, s7⟩, -, -, hW, hR, hS, hP, hQ, -⟩ := hB
    have hn := hW.1
    unfold jX6_piece jX7_piece
    rw [show S 23 0 = nI n from s1, show S 65 0 = nI n from s2, show S 31 0 = nI m from s7, show S 67 0 = nI k from s4]
    rcases a_bar (n := n) (by omega) a1 with ⟨b, hb, rfl, e1, e2⟩ | ⟨e1, e2⟩
    · rw [e1, bnd_n, if_neg one_ne, e2, bnd_n, if_neg one_ne]
      rcases a_what (c := 5) (C1 := 4) (by omega) (by omega) rfl a2 with ⟨j, hj, rfl, e4, e5⟩ | ⟨e4, e5⟩
      · rw [show jX6_isBelow (nI j) 5 = some 1 from e4, bnd_n, if_neg one_ne, e5, bnd_n, if_neg one_ne]
        obtain ⟨q, f1, hq⟩ := r_nameA (p0 := S 73) hW hR
        rw [f1, bnd_n, chk_n (by omega) (by omega), chk_n (by omega) (by omega), chk_n (by omega) (by omega), rd_n (by omega), rd_n (by omega)]
        have hqp := POK_one hn hq hP
        rw [hqp b hb]
        refine Or.inr ?_
        by_cases hs : S kB_state b = 0
        · obtain ⟨i, h1, h2, -⟩ := hP.1 b hb hs
          have h2' : S 22 b = nI i := h2
          rw [h2', if_pos (n_nonneg (by omega)), if_neg (n_m1 (by omega))]
          by_cases hj4 : j = 4
          · subst hj4
            obtain ⟨G, hG⟩ := brs_ex n (S 69) (S 70) (S 22) (nI i)
            have hG' : brs n (S 69) (S 70) q (nI i) G := fun z hz => by
              have : ∀ (hh : 0 < S 69 z), q (z / 24) = S 22 (z / 24) := fun hh => by
                obtain ⟨c, d, k1, k2, k3, -⟩ := hW.2.2.2.2.1 z hz (i_pos_ne hh)
                exact hqp _ (by omega)
              refine ⟨fun ⟨y1, y2, y3⟩ => (hG z hz).1 ⟨y1, by rw [← this y1]; exact y2, y3⟩, fun y => (hG z hz).2 (fun ⟨y1, y2, y3⟩ => y ⟨y1, by rw [this y1]; exact y2, y3⟩)⟩
            obtain ⟨us, cb, re, g1⟩ := c_single (us := S 56) (cb := S 57) (re := S 58) hn hQ hW.2.2.2.2.1 hW.2.2.2.2.2.2 hG
            obtain ⟨is', g2⟩ := r_single (is := S 77) hn hW.2.2.2.2.1 hG' hb ((hqp b hb).trans h2)
            rw [if_pos (by decide), if_pos (by decide)]
            refine ⟨fs G 576, (us, cb, re), (q, is'), ?_, ?_⟩
            · rw [show jX6_singleLashings (S 22) (nI m) (S 27) (S 28) (S 56) (S 57) (S 58) (nI i) = some (fs G 576, us, cb, re) from g1, bnd_n]
            · rw [show jX7_piece_L66 (nI n) (S 69) (S 70) q (nI b) FU (S 77) 0 0 = some (is', fs G 576) from g2, bnd_n]
          · obtain ⟨v, g1, g2⟩ := b_psum (p := S 22) (p' := q) (P := nI i) hW hC hR hqp (by omega : j < 4)
            rw [if_neg (show ¬ nI j = 4 from fun z => hj4 ((nI_eq (b := 4) (by omega) (by omega)).mp z)), if_neg (show ¬ (4 : Int32) ≤ nI j from fun z => by have := (nI_leI (a := 4) (by omega) (by omega)).mp z; omega)]
            refine ⟨v, (S 56, S 57, S 58), (q, S 77), ?_, ?_⟩
            · rw [show jX6_pieceSum (nI n) (S 14) (S 16) (S 17) (S 18) (S 22) (nI i) (nI j) = some v from g1, bnd_n]
            · rw [show jX7_sumIn (nI n) (nI k) (S 66) (S 68) (S 71) q (nI i) (nI j) = some v from g2, bnd_n]
        · have h2' : S 22 b = -1 := hP.2.2 b hb hs
          rw [h2', if_neg (by decide), if_pos rfl]
          exact ⟨0, _, _, rfl, rfl⟩
      · rw [show jX6_isBelow a2 5 = some 0 from e4, bnd_n, if_pos rfl, e5, bnd_n, if_pos rfl]
        exact Or.inl ⟨rfl, _, rfl⟩
    · rw [e1, bnd_n, if_pos rfl, e2, bnd_n, if_pos rfl]
      exact Or.inl ⟨rfl, _, rfl⟩
  rcases H with ⟨h1, x, h2⟩ | ⟨v, x, y, h1, h2⟩
  · exact ⟨_, _, h1, h2, rfl, fun k hk => ⟨by cases hk; simp, Rel_up rfl (Rel_up rfl (Rel_up rfl h))⟩, fun u hu => by cases hu⟩
  · exact ⟨_, _, h1, h2, rfl, fun k hk => (by cases hk), fun u hu => ⟨by cases hu; rfl, Rel_up rfl (Rel_up rfl (Rel_up rfl (Rel_up rfl (Rel_up rfl (Rel_up rfl h)))))⟩⟩
theorem sim_spare (S : Nat → Nat → Int32) (h : Rel S) : ∃ (q : Int32 × Int32) (q' : (Int32 × Int32) × Int32), jX6_spare (S 23 0) (S 14) (S 16) (S 17) (S 18) (S 19) = some q ∧ jX7_spare (S 60 0) (S 65 0) (S 67 0) (S 66) (S 68) (S 71) = some q' ∧ (q.2 = 0 ↔ q'.1.2 = 0) ∧ (¬ q.2 = 0 → q'.1 = q) ∧ Rel (up S 60 (fun _ => q'.2)) := by
  have hRel : ∀ x, Rel (up S 60 (fun _ => x)) := fun x => Rel_up rfl h
  obtain ⟨n, k, w, m, r, κ, hB⟩ := h
  have hC := RB_CR hB
  obtain ⟨⟨s1, s2, s3, s4, s5, s6, s7⟩, -, -, hW, hR, -⟩ := hB
  have hn := hW.1
  have hk := hW.2.1
  obtain ⟨v, f1, f2⟩ := b_state (a := 0) hn hC hR
  have c22 : jX6_spare_L22 (nI n) (S 14) (S 16) (S 17) (S 18) (S 19) FU 0 0 = some (fs (fun j => if S 19 j = 0 then lf S j - ld S j else 0) n) := by
    refine itF0 (fun g s v => jX6_spare_L22 (nI n) (S 14) (S 16) (S 17) (S 18) (S 19) g s v) (fs (fun j => if S 19 j = 0 then lf S j - ld S j else 0)) n (by omega) rfl (fun g => ?_) (fun g j hj => ?_)
    · rw [jX6_spare_L22, if_pos (Int32.le_refl _)]
    · rw [jX6_spare_L22, if_neg (fun z => by have := (nI_leI (by omega) (by omega)).mp z; omega), c_floats hn hj, bnd_n, nI_1, fs]
      by_cases e : S 19 j = 0
      · rw [if_pos e, if_neg one_ne, cr_lift hC hn hj, bnd_n, cr_load hC hn hj, bnd_n, if_pos e]
      · rw [if_neg e, if_pos rfl, if_neg e, Int32.add_zero]
  have r9 : jX7_spare_L9 (nI n) (nI k) (S 66) (S 68) (S 71) FU 0 0 = some (fs (fun j => if S 19 j = 0 then lf S j - ld S j else 0) n) := by
    refine itF0 (fun g s v => jX7_spare_L9 (nI n) (nI k) (S 66) (S 68) (S 71) g s v) (fs (fun j => if S 19 j = 0 then lf S j - ld S j else 0)) n (by omega) rfl (fun g => ?_) (fun g j hj => ?_)
    · rw [jX7_spare_L9, if_pos (Int32.le_refl _)]
    · rw [jX7_spare_L9, if_neg (fun z => by have := (nI_leI (by omega) (by omega)).mp z; omega), r_floats (by omega), bnd_n, nI_1, (hR.1 j hj).2.2.2.2.1, fs]
      by_cases e : S 19 j = 0
      · rw [if_pos e, if_neg one_ne, r_lifts hR hn hj, bnd_n, r_loadOf hR hn hk hj (hW.2.2.1 j hj).2.2.2, bnd_n, if_pos e]
      · rw [if_neg e, if_pos rfl, if_neg e]
  have f1' : jX0_countOf (nI n) (S 19) 0 = some v := f1
  unfold jX6_spare jX7_spare
  rw [show S 23 0 = nI n from s1, show S 65 0 = nI n from s2, show S 67 0 = nI k from s4, f1', bnd_n, c22, r9, bnd_n, f2, bnd_n]
  by_cases e : v = 0
  · rw [if_pos e, bnd_n, if_pos e]
    exact ⟨_, _, rfl, rfl, Iff.rfl, fun _ => rfl, hRel _⟩
  · rw [if_neg e, bnd_n, if_neg e, bnd_n, chkP_n e, chkP_n e]
    exact ⟨_, _, rfl, rfl, Iff.rfl, fun _ => rfl, hRel _⟩
theorem fo_eq {σ : Type} {g : Nat → σ → σ} {n : Nat} {s : σ} : fo g (n + 1) s = g n (fo g n s) := rfl
theorem sim_digest (S : Nat → Nat → Int32) (h : Rel S) : ∃ (q : Int64) (q' : Int64 × Int32 × (Nat → Int32)), jX6_digest (S 0 0) (S 10 0) (S 11 0) (S 23 0) (S 12) (S 13) (S 14) (S 15) (S 16) (S 17) (S 18) (S 19) (S 20) (S 21) (S 22) (S 26 0) (S 24) (S 25) (S 31 0) (S 27) (S 28) (S 29) (S 30) = some q ∧ jX7_digest (S 60 0) (S 65 0) (S 67 0) (S 66) (S 68) (S 69) (S 70) (S 71) (S 72) (S 73) = some q' ∧ q'.1 = q ∧ Rel (up (up S 60 (fun _ => q'.2.1)) 73 q'.2.2) := by
  have hRel : ∀ x p, Rel (up (up S 60 (fun _ => x)) 73 p) := fun x p => Rel_up rfl (Rel_up rfl h)
  obtain ⟨n, k, w, m, r, κ, hB⟩ := h
  have hC := RB_CR hB
  obtain ⟨⟨s1, s2, s3, s4, s5, s6, s7⟩, -, ⟨t1, t2, t3, t4, -⟩, hW, hR, -, hP, hQ, hc, -⟩ := hB
  have hn := hW.1
  have hk := hW.2.1
  have hm := hQ.1
  -- count()
  have dA : ∀ (g j : Nat) (d : Int64) (pc : Nat → Int32), j ≤ 12 → 12 < g + j → ∃ d' pc', jX6_digest_L6 (S 0 0) (S 10 0) (S 11 0) (nI n) (S 17) (S 19) (S 22) (nI k) (S 25) (nI m) g d (nI j) = some d' ∧ jX7_digest_L11 (nI n) (nI k) (S 68) (S 69) (S 71) (S 72) g pc d (nI j) = some (pc', d') := by
    intro g
    induction g with
    | zero => intro j d pc h1 h2; omega
    | succ g ih =>
      intro j d pc h1 h2
      rw [jX6_digest_L6, jX7_digest_L11]
      by_cases e : j = 12
      · subst e
        rw [if_pos (by decide), if_pos (by decide)]
        exact ⟨d, pc, rfl, rfl⟩
      · have hlt : ¬ (12 : Int32) ≤ nI j := fun z => by have := (nI_leI (a := 12) (by omega) (by omega)).mp z; omega
        obtain ⟨v, pc', f1, f2⟩ := b_count (pc := pc) hW hC hP hQ hR t1 (t2.trans t3.symm) t4 (by omega : j < 12)
        have f1' : jX6_countFact (S 0 0) (S 10 0) (S 11 0) (nI n) (S 17) (S 19) (S 22) (nI k) (S 25) (nI m) (nI j) = some v := f1
        have f2' : jX7_counted (nI n) (nI k) (S 68) (S 69) (S 71) (S 72) pc (nI j) = some (v, pc') := f2
        rw [if_neg hlt, if_neg hlt, f1', bnd_n, f2', bnd_n, nI_1]
        exact ih (j + 1) _ pc' (by omega) (by omega)
  -- one barrel
  have dB : ∀ (b : Nat), b < n → ∀ (g j : Nat) (d : Int64) (pc : Nat → Int32), j ≤ 13 → 13 < g + j → ∃ d' pc', jX6_digest_L50 (S 12) (S 13) (S 14) (S 15) (S 16) (S 17) (S 18) (S 19) (S 20) (S 21) (S 22) (nI m) (S 27) (S 28) (nI b) g d (nI j) = some d' ∧ jX7_digest_L49 (nI n) (nI k) (S 66) (S 68) (S 69) (S 71) (nI b) g pc d (nI j) = some (pc', d') := by
    intro b hb g
    induction g with
    | zero => intro j d pc h1 h2; omega
    | succ g ih =>
      intro j d pc h1 h2
      rw [jX6_digest_L50, jX7_digest_L49]
      by_cases e : j = 13
      · subst e
        rw [if_pos (by decide), if_pos (by decide)]
        exact ⟨d, pc, rfl, rfl⟩
      · have hlt : ¬ (13 : Int32) ≤ nI j := fun z => by have := (nI_leI (a := 13) (by omega) (by omega)).mp z; omega
        obtain ⟨v, pc', f1, f2⟩ := b_barrel (pc := pc) hW hC hP hQ hR hb (hc b hb) (by omega : j < 13)
        have f1' : jX6_barrelFact (S 12) (S 13) (S 14) (S 15) (S 16) (S 17) (S 18) (S 19) (S 20) (S 21) (S 22) (nI m) (S 27) (S 28) (nI b) (nI j) = some v := f1
        have f2' : jX7_barrelTold (nI n) (nI k) (S 66) (S 68) (S 69) (S 71) pc (nI b) (nI j) = some (v, pc') := f2
        rw [if_neg hlt, if_neg hlt, f1', bnd_n, f2', bnd_n, nI_1]
        exact ih (j + 1) _ pc' (by omega) (by omega)
  have dC : ∀ (g j : Nat) (d : Int64) (pc : Nat → Int32), j ≤ n → n < g + j → ∃ d' pc', jX6_digest_L33 (nI n) (S 12) (S 13) (S 14) (S 15) (S 16) (S 17) (S 18) (S 19) (S 20) (S 21) (S 22) (nI m) (S 27) (S 28) g d (nI j) = some d' ∧ jX7_digest_L38 (nI n) (nI k) (S 66) (S 68) (S 69) (S 71) g pc d (nI j) = some (pc', d') := by
    intro g
    induction g with
    | zero => intro j d pc h1 h2; omega
    | succ g ih =>
      intro j d pc h1 h2
      rw [jX6_digest_L33, jX7_digest_L38]
      by_cases e : j = n
      · subst e
        rw [if_pos (Int32.le_refl _), if_pos (Int32.le_refl _)]
        exact ⟨d, pc, rfl, rfl⟩
      · have hlt : ¬ nI n ≤ nI j := fun z => by have := (nI_leI (by omega) (by omega)).mp z; omega
        obtain ⟨d', pc', f1, f2⟩ := dB j (by omega) FU 0 d pc (by omega) (by unfold FU; omega)
        have f1' : jX6_digest_L50 (S 12) (S 13) (S 14) (S 15) (S 16) (S 17) (S 18) (S 19) (S 20) (S 21) (S 22) (nI m) (S 27) (S 28) (nI j) FU d 0 = some d' := f1
        have f2' : jX7_digest_L49 (nI n) (nI k) (S 66) (S 68) (S 69) (S 71) (nI j) FU pc d 0 = some (pc', d') := f2
        rw [if_neg hlt, if_neg hlt, f1', bnd_n, f2', bnd_n, nI_1]
        exact ih (j + 1) d' pc' (by omega) (by omega)
  -- lashings
  have dD : ∀ d : Int64, ∃ d', jX6_digest_L86 (nI m) (S 27) (S 28) (S 29) (S 30) FU d 0 = some d' ∧ jX7_digest_L85 (S 69) (S 70) FU d 0 = some d' := fun d => by
    have e1 := itF0 (r := fo (fun i (a : Int64) => ((((((((a * (31 : Int64)) + ((nI (κ i / 24)).toInt64)) * (31 : Int64)) + ((nI (κ i % 24)).toInt64)) * (31 : Int64)) + ((S 69 (κ i)).toInt64)) * (31 : Int64)) + ((S 70 (κ i)).toInt64))) m d) (s0 := d) (fun g s v => jX6_digest_L86 (nI m) (S 27) (S 28) (S 29) (S 30) g s v) (fun j => fo (fun i (a : Int64) => ((((((((a * (31 : Int64)) + ((nI (κ i / 24)).toInt64)) * (31 : Int64)) + ((nI (κ i % 24)).toInt64)) * (31 : Int64)) + ((S 69 (κ i)).toInt64)) * (31 : Int64)) + ((S 70 (κ i)).toInt64))) j d) m (by omega) rfl (fun g => by rw [jX6_digest_L86, if_pos (Int32.le_refl _)]) (fun g i hi => by
      obtain ⟨q1, q2, q3, q4⟩ := hQ.2.2 i hi
      have q1' : S 27 i = nI (κ i / 24) := q1
      have q2' : S 28 i = nI (κ i % 24) := q2
      have q3' : S 29 i = S 69 (κ i) := q3
      have q4' : S 30 i = S 70 (κ i) := q4
      rw [jX6_digest_L86, if_neg (fun z => by have := (nI_leI (by omega) (by omega)).mp z; omega), chk_n (by omega) (by omega), chk_n (by omega) (by omega), chk_n (by omega) (by omega), chk_n (by omega) (by omega), rd_n (by omega), rd_n (by omega), rd_n (by omega), rd_n (by omega), q1', q2', q3', q4', nI_1]
      rfl)
    refine ⟨_, e1, ?_⟩
    rw [enu_fo (g := fun q (a : Int64) => ((((((((a * (31 : Int64)) + ((nI (q / 24)).toInt64)) * (31 : Int64)) + ((nI (q % 24)).toInt64)) * (31 : Int64)) + ((S 69 q).toInt64)) * (31 : Int64)) + ((S 70 q).toInt64))) hQ.2.1]
    refine itF0 (s0 := d) (fun g s v => jX7_digest_L85 (S 69) (S 70) g s v) (fun j => fo (fun q (a : Int64) => if decide (0 < S 69 q) = true then ((((((((a * (31 : Int64)) + ((nI (q / 24)).toInt64)) * (31 : Int64)) + ((nI (q % 24)).toInt64)) * (31 : Int64)) + ((S 69 q).toInt64)) * (31 : Int64)) + ((S 70 q).toInt64)) else a) j d) 576 (by omega) rfl (fun g => by rw [jX7_digest_L85, if_pos (by decide)]) (fun g q hq => ?_)
    rw [jX7_digest_L85, if_neg (fun z => by have := (nI_leI (a := 576) (by omega) (by omega)).mp z; omega), chk_n hq (by omega), rd_n (by omega), nI_1, fo_eq]
    by_cases h0 : 0 < S 69 q
    · rw [if_neg (Int32.not_le.mpr h0), if_pos (decide_eq_true h0), chk_n hq (by omega), chk_n hq (by omega), rd_n (by omega), l24, pk_rem (by omega) (by omega) (by omega), pk_div (by omega) (by omega) (by omega)]
    · rw [if_pos (Int32.not_lt.mp h0), if_neg (fun z => h0 (of_decide_eq_true z))]
  -- castaways
  have dE : ∀ (c : Nat), c < k → ∀ (g j : Nat) (d : Int64), j ≤ 2 → 2 < g + j → ∃ d', jX6_digest_L205 (S 24) (S 25) (nI c) g d (nI j) = some d' ∧ jX7_digest_L166 (S 71) (nI c) g d (nI j) = some d' := by
    intro c hc g
    induction g with
    | zero => intro j d h1 h2; omega
    | succ g ih =>
      intro j d h1 h2
      rw [jX6_digest_L205, jX7_digest_L166]
      by_cases e : j = 2
      · subst e
        rw [if_pos (by decide), if_pos (by decide)]
        exact ⟨d, rfl, rfl⟩
      · have hlt : ¬ (2 : Int32) ≤ nI j := fun z => by have := (nI_leI (a := 2) (by omega) (by omega)).mp z; omega
        have f1 : jX6_castawayFact (S 24) (S 25) (nI c) (nI j) = some (S 71 (2 * c + j)) := b_cast hk hC hR hc (by omega : j < 2)
        rw [if_neg hlt, if_neg hlt, f1, bnd_n, show (2 : Int32) * nI c + nI j = nI (2 * c + j) by rw [l2, pk_mul, nI_add], chk_n (by omega) (by omega), rd_n (by omega), nI_1]
        exact ih (j + 1) _ (by omega) (by omega)
  have dF : ∀ (g j : Nat) (d : Int64), j ≤ k → k < g + j → ∃ d', jX6_digest_L188 (nI k) (S 24) (S 25) g d (nI j) = some d' ∧ jX7_digest_L155 (nI k) (S 71) g d (nI j) = some d' := by
    intro g
    induction g with
    | zero => intro j d h1 h2; omega
    | succ g ih =>
      intro j d h1 h2
      rw [jX6_digest_L188, jX7_digest_L155]
      by_cases e : j = k
      · subst e
        rw [if_pos (Int32.le_refl _), if_pos (Int32.le_refl _)]
        exact ⟨d, rfl, rfl⟩
      · have hlt : ¬ nI k ≤ nI j := fun z => by have := (nI_leI (by omega) (by omega)).mp z; omega
        obtain ⟨d', f1, f2⟩ := dE j (by omega) FU 0 d (by omega) (by unfold FU; omega)
        have f1' : jX6_digest_L205 (S 24) (S 25) (nI j) FU d 0 = some d' := f1
        have f2' : jX7_digest_L166 (S 71) (nI j) FU d 0 = some d' := f2
        rw [if_neg hlt, if_neg hlt, f1', bnd_n, f2', bnd_n, nI_1]
        exact ih (j + 1) d' (by omega) (by omega)
  obtain ⟨d1, pc1, a1, b1⟩ := dA FU 0 571 (S 73) (by omega) (by unfold FU; omega)
  obtain ⟨d2, pc2, a2, b2⟩ := dC FU 0 d1 pc1 (by omega) (by unfold FU; omega)
  obtain ⟨d3, a3, b3⟩ := dD d2
  obtain ⟨d4, a4, b4⟩ := dF FU 0 d3 (by omega) (by unfold FU; omega)
  refine ⟨d4, (d4, 0, pc2), ?_, ?_, rfl, hRel _ _⟩
  · unfold jX6_digest
    rw [show S 23 0 = nI n from s1, show S 31 0 = nI m from s7, show S 26 0 = nI k from s3]
    refine bnd_i a1 (bnd_i a2 (bnd_i a3 (bnd_i a4 rfl)))
  · unfold jX7_digest
    rw [show S 65 0 = nI n from s2, show S 67 0 = nI k from s4]
    refine bnd_i b1 (bnd_i b2 (bnd_i b3 (bnd_i b4 rfl)))
