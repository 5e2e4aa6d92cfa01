/-! hours go by, on both sides -/
def AE (n k : Nat) (A A' : Nat → Nat → Int32) : Prop :=
  (∀ j, j < n → A' kB_lift j = A kB_lift j ∧ A' kB_leak j = A kB_leak j ∧ A' kB_water j = A kB_water j ∧ A' kB_goods j = A kB_goods j ∧ A' kB_people j = A kB_people j ∧ A' kB_state j = A kB_state j ∧ A' kB_x j = A kB_x j ∧ A' kB_y j = A kB_y j)
  ∧ (∀ c, c < k → A' kK_seat c = A kK_seat c ∧ A' kK_state c = A kK_state c) ∧ (∀ q, q < 576 → A' kM_strength q = A kM_strength q) ∧ ∀ q, q < 576 → 0 < A kM_strength q → A' kM_wear q = A kM_wear q
theorem AE_refl {n k : Nat} {A : Nat → Nat → Int32} : AE n k A A := ⟨fun _ _ => ⟨rfl, rfl, rfl, rfl, rfl, rfl, rfl, rfl⟩, fun _ _ => ⟨rfl, rfl⟩, fun _ _ => rfl, fun _ _ _ => rfl⟩
theorem AE_trans {n k : Nat} {A B C : Nat → Nat → Int32} (h : AE n k A B) (h' : AE n k B C) : AE n k A C := by
  refine ⟨fun j hj => ?_, fun c hc => ?_, fun q hq => (h'.2.2.1 q hq).trans (h.2.2.1 q hq), fun q hq h0 => (h'.2.2.2 q hq (by rw [h.2.2.1 q hq]; exact h0)).trans (h.2.2.2 q hq h0)⟩
  · obtain ⟨a1, a2, a3, a4, a5, a6, a7, a8⟩ := h.1 j hj
    obtain ⟨b1, b2, b3, b4, b5, b6, b7, b8⟩ := h'.1 j hj
    exact ⟨b1.trans a1, b2.trans a2, b3.trans a3, b4.trans a4, b5.trans a5, b6.trans a6, b7.trans a7, b8.trans a8⟩
  · exact ⟨(h'.2.1 c hc).1.trans (h.2.1 c hc).1, (h'.2.1 c hc).2.trans (h.2.1 c hc).2⟩
theorem CR_ae {n k : Nat} {A A' : Nat → Nat → Int32} {li lk wa go pe st x y se ks : Nat → Int32} (e : AE n k A A') (h : CR n k A li lk wa go pe st x y se ks) : CR n k A' li lk wa go pe st x y se ks := by
  refine ⟨fun j hj => ?_, fun c hc => ⟨(h.2.1 c hc).1.trans (e.2.1 c hc).1.symm, (h.2.1 c hc).2.trans (e.2.1 c hc).2.symm⟩, h.2.2⟩
  obtain ⟨a1, a2, a3, a4, a5, a6, a7, a8⟩ := e.1 j hj
  obtain ⟨b1, b2, b3, b4, b5, b6, b7, b8⟩ := h.1 j hj
  exact ⟨b1.trans a1.symm, b2.trans a2.symm, b3.trans a3.symm, b4.trans a4.symm, b5.trans a5.symm, b6.trans a6.symm, b7.trans a7.symm, b8.trans a8.symm⟩
theorem QOK_ae {m : Nat} {f s t u T U T' U' : Nat → Int32} {κ : Nat → Nat} (Q : QOK m f s t u κ T U) (e1 : ∀ q, q < 576 → T' q = T q) (e2 : ∀ q, q < 576 → 0 < T q → U' q = U q) : QOK m f s t u κ T' U' := by
  obtain ⟨hm, he, hr⟩ := Q
  refine ⟨hm, ⟨fun i hi => ⟨(he.1 i hi).1, decide_eq_true (by rw [e1 _ (he.1 i hi).1]; exact of_decide_eq_true (he.1 i hi).2)⟩, he.2.1, fun q hq h0 => he.2.2 q hq (decide_eq_true (by rw [← e1 q hq]; exact of_decide_eq_true h0))⟩, fun i hi => ?_⟩
  obtain ⟨a1, a2, a3, a4⟩ := hr i hi
  have := (he.1 i hi)
  exact ⟨a1, a2, a3.trans (e1 _ this.1).symm, a4.trans (e2 _ this.1 (of_decide_eq_true this.2)).symm⟩
theorem PN_ae {n k : Nat} {A A' : Nat → Nat → Int32} {p : Nat → Int32} (hn : n ≤ 24) (e : AE n k A A') (h : PN n A p) : PN n A' p :=
  POK_ext (fun j hj => (e.1 j hj).2.2.2.2.2.1) (fun a b => (Tie_ext hn e.2.2.1 a b).symm) h
/-- A' is A some hours on, with B lashings broken -/
def Hrs (n w : Nat) (Wt : Nat → Int32) (wx wy : Int32) : Nat → (Nat → Nat → Int32) → (Nat → Nat → Int32) → Int32 → Prop
  | 0, A, A', B => A' = A ∧ B = 0
  | r + 1, A, A', B => ∃ p p2, PN n A p ∧ PN n (hA2 n w Wt A p) p2 ∧ ∃ B', Hrs n w Wt wx wy r (hA4 n w Wt wx wy A p p2) A' B' ∧ B = brkN n w Wt A p + B'
theorem WA_Hrs {n k w : Nat} {Wt : Nat → Int32} {wx wy : Int32} (hS : WOK w Wt) : ∀ {r : Nat} {A A' : Nat → Nat → Int32} {B : Int32}, WA n k A → Hrs n w Wt wx wy r A A' B → WA n k A'
  | 0, _, _, _, hW, h => h.1 ▸ hW
  | r + 1, _, _, _, hW, ⟨p, p2, h1, h2, B', h3, _⟩ => WA_Hrs hS (WA_hA4 hW hS h2) h3
/-- where nothing floats, an hour changes nothing -/
theorem idle {n k w : Nat} {A : Nat → Nat → Int32} {Wt p : Nat → Int32} {wx wy : Int32} (hW : WA n k A) (hP : PN n A p) (h0 : ∀ j, j < n → A kB_state j ≠ 0) : AE n k A (hA4 n w Wt wx wy A p p) ∧ PN n (hA2 n w Wt A p) p ∧ brkN n w Wt A p = 0 := by
  have hpm : ∀ j, j < n → p j = -1 := fun j hj => hP.2.2 j hj (h0 j hj)
  have hT : ∀ q, q < 576 → A kM_strength q = 0 := fun q hq => by
    by_cases z : A kM_strength q = 0
    · exact z
    · obtain ⟨a, b, h1, h2, h3, h4, -⟩ := hW.2.2.2.2.1 q hq z
      exact absurd h4 (h0 a (by omega))
  have e1 : EO n (stepW n A) p = fun _ => false := E_none (fun j hj => (of_decide_eq_true hj).1) (fun j hj => decide_eq_false fun z => z.2.1 (by rw [hpm j hj]; exact m1_neg))
  have a1 : hA1 n A p = stepW n A := by unfold hA1; rw [e1, endA_none]
  have nb : ∀ q, q < 576 → brk Wt w (hA1 n A p) q = false := fun q hq => brk_no (by rw [a1]; show ¬ 0 < A kM_strength q; rw [hT q hq]; decide)
  have e2 : ∀ q, q < 576 → hA2 n w Wt A p kM_strength q = A kM_strength q := fun q hq => by
    unfold hA2
    rw [wearA_T, nb q hq, a1]; rfl
  have e3 : ES n (hA3 n w Wt wx wy A p p) = fun _ => false := E_none (fun j hj => (of_decide_eq_true hj).1) (fun j hj => decide_eq_false fun z => h0 j hj (by
    have := z.2.1
    have e : hA3 n w Wt wx wy A p p kB_state j = hA1 n A p kB_state j := rfl
    rw [e, a1] at this
    exact this))
  have a4 : hA4 n w Wt wx wy A p p = hA3 n w Wt wx wy A p p := by unfold hA4; rw [e3, endA_none]
  refine ⟨?_, ?_, ?_⟩
  · rw [a4]
    refine ⟨fun j hj => ⟨?_, ?_, ?_, ?_, ?_, ?_, ?_, ?_⟩, fun c hc => ⟨?_, ?_⟩, e2, fun q hq hz => absurd hz (by rw [hT q hq]; decide)⟩
    · show hA1 n A p kB_lift j = _; rw [a1]; rfl
    · show hA1 n A p kB_leak j = _; rw [a1]; rfl
    · show hA1 n A p kB_water j = _; rw [a1]; exact if_neg (fun z => h0 j hj z.2)
    · show hA1 n A p kB_goods j = _; rw [a1]; rfl
    · show hA1 n A p kB_people j = _; rw [a1]; rfl
    · show hA1 n A p kB_state j = _; rw [a1]; rfl
    · show (if j < n ∧ ¬ p j < 0 then _ else hA1 n A p kB_x j) = _
      rw [a1, if_neg (fun z => z.2 (by rw [hpm j hj]; exact m1_neg))]; rfl
    · show (if j < n ∧ ¬ p j < 0 then _ else hA1 n A p kB_y j) = _
      rw [a1, if_neg (fun z => z.2 (by rw [hpm j hj]; exact m1_neg))]; rfl
    · show hA1 n A p kK_seat c = _; rw [a1]; rfl
    · show hA1 n A p kK_state c = _; rw [a1]; rfl
  · refine POK_ext (fun j hj => ?_) (fun a b => (Tie_ext hW.1 e2 a b).symm) hP
    show hA1 n A p kB_state j = _
    rw [a1]; rfl
  · unfold brkN
    exact fs_zero fun q hq => if_neg (by rw [nb q hq]; decide)
theorem idles {n k w : Nat} {Wt : Nat → Int32} {wx wy : Int32} (hS : WOK w Wt) : ∀ (r : Nat) {A : Nat → Nat → Int32} {p : Nat → Int32}, WA n k A → PN n A p → (∀ j, j < n → A kB_state j ≠ 0) → ∃ A', Hrs n w Wt wx wy r A A' 0 ∧ AE n k A A'
  | 0, A, _, _, _, _ => ⟨A, ⟨rfl, rfl⟩, AE_refl⟩
  | r + 1, A, p, hW, hP, h0 => by
    obtain ⟨h1, h2, h3⟩ := idle (w := w) (Wt := Wt) (wx := wx) (wy := wy) hW hP h0
    obtain ⟨A', h4, h5⟩ := idles hS r (WA_hA4 hW hS h2) (PN_ae hW.1 h1 hP) (fun j hj => by rw [(h1.1 j hj).2.2.2.2.2.1]; exact h0 j hj)
    exact ⟨A', ⟨p, p, hP, h2, 0, h4, by rw [h3]; rfl⟩, AE_trans h1 h5⟩
section CPass
variable {n k w : Nat} {dx dy wv C Wt li lk : Nat → Int32} {wx wy : Int32}
theorem c_passL (hS : SOK w dx dy wv C Wt) {hh : Nat} (hhh : hh < 900) : ∀ (g j : Nat) (A : Nat → Nat → Int32) (br : Int32) (pl pd wa go pe st x y p se ks : Nat → Int32) (m : Nat) (qf qs qt qu : Nat → Int32) (κ : Nat → Nat), j ≤ hh → hh < g + j → WA n k A → CR n k A li lk wa go pe st x y se ks → PN n A p → QOK m qf qs qt qu κ (A kM_strength) (A kM_wear) →
    ∃ A' B pl' pd' wa' go' pe' st' x' y' p' se' ks' m' qf' qs' qt' qu' κ', jX3_passHours_L2 (nI n) li lk (nI k) (nI w) wx wy dx dy wv C (nI hh) g br pl pd wa go pe st x y p se ks (nI m) qf qs qt qu (nI j) = some (br + B, pl', pd', wa', go', pe', st', x', y', p', se', ks', nI m', qf', qs', qt', qu')
      ∧ Hrs n w Wt wx wy (hh - j) A A' B ∧ CR n k A' li lk wa' go' pe' st' x' y' se' ks' ∧ PN n A' p' ∧ m' ≤ m ∧ QOK m' qf' qs' qt' qu' κ' (A' kM_strength) (A' kM_wear) := by
  intro g
  induction g with
  | zero => intro j A br pl pd wa go pe st x y p se ks m qf qs qt qu κ h1 h2; omega
  | succ g ih =>
    intro j A br pl pd wa go pe st x y p se ks m qf qs qt qu κ hj hg hW h hP Q
    have hn := hW.1
    rw [jX3_passHours_L2]
    by_cases he : j = hh
    · subst he
      rw [if_pos (Int32.le_refl _)]
      exact ⟨A, 0, _, _, _, _, _, _, _, _, _, _, _, m, _, _, _, _, κ, by rw [Int32.add_zero], by rw [Nat.sub_self]; exact ⟨rfl, rfl⟩, h, hP, Nat.le_refl _, Q⟩
    · rw [if_neg (fun q => by have := (nI_leI (by omega) (by omega)).mp q; omega), c_firstAfloat hn, bnd_n]
      cases hf : fst0 st n 0 with
      | none =>
        dsimp only
        rw [if_pos m1_neg]
        obtain ⟨A', h1, h2⟩ := idles (w := w) (wx := wx) (wy := wy) hS.1 (hh - j) hW hP (fun i hi => by
          have := fst0_none hf i (by omega) (by omega)
          rw [(h.1 i hi).2.2.2.2.2.1] at this
          exact this)
        exact ⟨A', 0, _, _, _, _, _, _, _, _, _, _, _, m, _, _, _, _, κ, by rw [Int32.add_zero], h1, CR_ae h2 h, PN_ae hn h2 hP, Nat.le_refl _, QOK_ae Q h2.2.2.1 h2.2.2.2⟩
      | some i0 =>
        obtain ⟨-, hi0, -⟩ := fst0_some hf
        dsimp only
        rw [if_neg (n_neg (by omega)), c_takeIn hn, bnd_n]
        have h1 : CR n k (stepW n A) li lk (fun i => if i < n ∧ st i = 0 then mmin 100 (wa i + lk i) else wa i) go pe st x y se ks := by
          refine ⟨fun i hi => ?_, h.2.1, fun i hi hi' => ⟨by dsimp only; rw [if_neg (by omega)]; exact (h.2.2 i hi hi').1, (h.2.2 i hi hi').2⟩⟩
          obtain ⟨s1, s2, s3, s4, s5, s6, s7, s8⟩ := h.1 i hi
          refine ⟨s1, s2, ?_, s4, s5, s6, s7, s8⟩
          show _ = if i < n ∧ A kB_state i = 0 then mmin 100 (A kB_water i + A kB_leak i) else A kB_water i
          dsimp only
          rw [s6, s3, s2]
        have hP1 : PN n (stepW n A) p := hP
        have hA1e : hA1 n A p = endA (EO n (stepW n A) p) 1 (stepW n A) := rfl
        obtain ⟨pl2, pd2, go2, pe2, st2, p2, se2, ks2, m2, qf2, qs2, qt2, qu2, κ2, e2, h2, hP2, hm2, Q2⟩ := c_lose (pl := pl) (pd := pd) (m := m) (qf := qf) (qs := qs) (qt := qt) (qu := qu) (κ := κ) (WA_water hW) h1 hP1 Q
        rw [e2, bnd_n]
        dsimp only
        rw [← hA1e] at h2 hP2 Q2
        have hW2 : WA n k (hA1 n A p) := WA_hA1 hW
        obtain ⟨p3, m3, qf3, qs3, qt3, qu3, κ3, e3, hP3, hm3, Q3⟩ := c_wear (br := br) hW2 hS h2 hP2 Q2
        rw [e3, bnd_n]
        dsimp only
        have hA2e : hA2 n w Wt A p = wearA Wt w (hA1 n A p) := rfl
        rw [← hA2e] at hP3 Q3
        have hW3 : WA n k (hA2 n w Wt A p) := WA_hA2 hW hS.1
        have h3 : CR n k (hA2 n w Wt A p) li lk (fun i => if i < n ∧ st i = 0 then mmin 100 (wa i + lk i) else wa i) go2 pe2 st2 x y se2 ks2 := h2
        obtain ⟨pl4, pd4, x4, y4, e4, h4⟩ := c_drift (wx := wx) (wy := wy) (pl := pl2) (pd := pd2) hW3 hS h3 hP3
        rw [e4, bnd_n]
        dsimp only
        have hA3e : hA3 n w Wt wx wy A p p3 = driftA n w Wt (hA2 n w Wt A p) p3 wx wy := rfl
        have hW4 : WA n k (hA3 n w Wt wx wy A p p3) := WA_hA3 hW hS.1 hP3
        have h4' : CR n k (hA3 n w Wt wx wy A p p3) li lk (fun i => if i < n ∧ st i = 0 then mmin 100 (wa i + lk i) else wa i) go2 pe2 st2 x4 y4 se2 ks2 := by
          refine ⟨fun i hi => ?_, h3.2⟩
          obtain ⟨s1, s2, s3, s4, s5, s6, -, -⟩ := h3.1 i hi
          exact ⟨s1, s2, s3, s4, s5, s6, (h4 i hi).1, (h4 i hi).2⟩
        obtain ⟨go5, pe5, st5, p5, se5, ks5, m5, qf5, qs5, qt5, qu5, κ5, e5, h5, hP5, hm5, Q5⟩ := c_shore (m := m3) (qf := qf3) (qs := qs3) (qt := qt3) (qu := qu3) (κ := κ3) hW4 h4' hP3 Q3
        rw [e5, bnd_n]
        dsimp only
        have hA4e : hA4 n w Wt wx wy A p p3 = endA (ES n (hA3 n w Wt wx wy A p p3)) 2 (hA3 n w Wt wx wy A p p3) := rfl
        rw [← hA4e] at h5 hP5 Q5
        rw [nI_1]
        obtain ⟨A', B, pl6, pd6, wa6, go6, pe6, st6, x6, y6, p6, se6, ks6, m6, qf6, qs6, qt6, qu6, κ6, e6, h6, r6⟩ := ih (j + 1) (hA4 n w Wt wx wy A p p3) (br + brkN n w Wt A p) pl4 pd4 (fun i => if i < n ∧ st i = 0 then mmin 100 (wa i + lk i) else wa i) go5 pe5 st5 x4 y4 p5 se5 ks5 m5 qf5 qs5 qt5 qu5 κ5 (by omega) (by omega) (WA_hA4 hW hS.1 hP3) h5 hP5 Q5
        refine ⟨A', brkN n w Wt A p + B, pl6, pd6, wa6, go6, pe6, st6, x6, y6, p6, se6, ks6, m6, qf6, qs6, qt6, qu6, κ6, ?_, ?_, r6.1, r6.2.1, by have := r6.2.2.1; omega, r6.2.2.2⟩
        · rw [← Int32.add_assoc]; exact e6
        · rw [show hh - j = (hh - (j + 1)) + 1 by omega]
          exact ⟨p, p3, hP, hP3, B, h6, rfl⟩
theorem c_passHours (hS : SOK w dx dy wv C Wt) {hh : Nat} (hhh : hh < 900) {A : Nat → Nat → Int32} {ho br : Int32} {pl pd wa go pe st x y p se ks : Nat → Int32} {m : Nat} {qf qs qt qu : Nat → Int32} {κ : Nat → Nat} (hW : WA n k A) (h : CR n k A li lk wa go pe st x y se ks) (hP : PN n A p) (Q : QOK m qf qs qt qu κ (A kM_strength) (A kM_wear)) :
    ∃ A' B pl' pd' wa' go' pe' st' x' y' p' se' ks' m' qf' qs' qt' qu' κ', jX3_passHours ho br pl pd (nI n) li lk wa go pe st x y p (nI k) se ks (nI m) qf qs qt qu (nI w) wx wy dx dy wv C (nI hh) = some (ho + nI hh, br + B, pl', pd', wa', go', pe', st', x', y', p', se', ks', nI m', qf', qs', qt', qu')
      ∧ Hrs n w Wt wx wy hh A A' B ∧ CR n k A' li lk wa' go' pe' st' x' y' se' ks' ∧ PN n A' p' ∧ m' ≤ m ∧ QOK m' qf' qs' qt' qu' κ' (A' kM_strength) (A' kM_wear) := by
  obtain ⟨A', B, pl6, pd6, wa6, go6, pe6, st6, x6, y6, p6, se6, ks6, m6, qf6, qs6, qt6, qu6, κ6, e6, r6⟩ := c_passL (wx := wx) (wy := wy) hS hhh FU 0 A br pl pd wa go pe st x y p se ks m qf qs qt qu κ (by omega) (by unfold FU; omega) hW h hP Q
  exact ⟨A', B, pl6, pd6, wa6, go6, pe6, st6, x6, y6, p6, se6, ks6, m6, qf6, qs6, qt6, qu6, κ6, bnd_i e6 rfl, r6⟩
/-- the reference's numbers after r hours -/
def NUX (r : Nat) (nu nu' : Nat → Int32) (B : Int32) : Prop := nu' 0 = nu 0 + nI r ∧ nu' 1 = nu 1 ∧ nu' 2 = nu 2 + B
theorem NUX_nxt {r : Nat} {nu nu' : Nat → Int32} {b B : Int32} (h : NUX r (nxt nu b) nu' B) : NUX (r + 1) nu nu' (b + B) := by
  obtain ⟨h1, h2, h3⟩ := h
  have e0 : nxt nu b 0 = nu 0 + 1 := by unfold nxt; rw [upd_b (by decide), upd_a]
  have e1 : nxt nu b 1 = nu 1 := by unfold nxt; rw [upd_b (by decide), upd_b (by decide)]
  have e2 : nxt nu b 2 = nu 2 + b := by unfold nxt; rw [upd_a]
  rw [e0] at h1
  rw [e1] at h2
  rw [e2] at h3
  refine ⟨?_, h2, ?_⟩
  · rw [h1, Int32.add_assoc, l1, nI_add, Nat.add_comm]
  · rw [h3, Int32.add_assoc]
theorem r_passL (hS : WOK w Wt) {hh : Nat} (hhh : hh < 900) : ∀ (g j : Nat) (A A' : Nat → Nat → Int32) (B : Int32) (fx tb T U pp nu pc : Nat → Int32) (br : Int32), j ≤ hh → hh < g + j → WA n k A → RM n k A fx tb T U pp → Hrs n w Wt wx wy (hh - j) A A' B →
    ∃ tb' T' U' pp' nu' pc', jX7_pass_L25 (nI w) wx wy (nI n) (nI k) Wt fx (nI hh) g tb T U pp nu pc br (nI j) = some (tb', T', U', pp', nu', pc', br + B) ∧ RM n k A' fx tb' T' U' pp' ∧ NUX (hh - j) nu nu' B := by
  intro g
  induction g with
  | zero => intro j A A' B fx tb T U pp nu pc br h1 h2; omega
  | succ g ih =>
    intro j A A' B fx tb T U pp nu pc br hj hg hW h hH
    rw [jX7_pass_L25]
    by_cases he : j = hh
    · subst he
      rw [Nat.sub_self] at hH ⊢
      obtain ⟨rfl, rfl⟩ := hH
      rw [if_pos (Int32.le_refl _)]
      exact ⟨tb, T, U, pp, nu, pc, by rw [Int32.add_zero], h, by rw [show nI 0 = 0 from rfl, Int32.add_zero], rfl, by rw [Int32.add_zero]⟩
    · rw [show hh - j = (hh - (j + 1)) + 1 by omega] at hH ⊢
      obtain ⟨p, p2, h1, h2, B', h3, rfl⟩ := hH
      obtain ⟨tb2, T2, U2, pp2, pc2, e2, H2⟩ := r_hourOn (wx := wx) (wy := wy) (nu := nu) (pc := pc) hW hS h1 h2 h
      rw [if_neg (fun q => by have := (nI_leI (by omega) (by omega)).mp q; omega), e2, bnd_n, nI_1]
      obtain ⟨tb3, T3, U3, pp3, nu3, pc3, e3, H3, N3⟩ := ih (j + 1) (hA4 n w Wt wx wy A p p2) A' B' fx tb2 T2 U2 pp2 (nxt nu (brkN n w Wt A p)) pc2 (br + brkN n w Wt A p) (by omega) (by omega) (WA_hA4 hW hS h2) H2 h3
      exact ⟨tb3, T3, U3, pp3, nu3, pc3, by rw [← Int32.add_assoc]; exact e3, H3, NUX_nxt N3⟩
theorem r_lookL (hS : WOK w Wt) {hh : Nat} (hhh : hh < 900) : ∀ (g j : Nat) (A A' : Nat → Nat → Int32) (B : Int32) (fx tb T U pp nu pc : Nat → Int32), j ≤ hh → hh < g + j → WA n k A → RM n k A fx tb T U pp → Hrs n w Wt wx wy (hh - j) A A' B →
    ∃ tb' T' U' pp' nu' pc', jX7_look_L8 (nI w) wx wy (nI n) (nI k) Wt fx (nI hh) g tb T U pp nu pc (nI j) = some (tb', T', U', pp', nu', pc') ∧ RM n k A' fx tb' T' U' pp' := by
  intro g
  induction g with
  | zero => intro j A A' B fx tb T U pp nu pc h1 h2; omega
  | succ g ih =>
    intro j A A' B fx tb T U pp nu pc hj hg hW h hH
    rw [jX7_look_L8]
    by_cases he : j = hh
    · subst he
      rw [Nat.sub_self] at hH
      obtain ⟨rfl, rfl⟩ := hH
      rw [if_pos (Int32.le_refl _)]
      exact ⟨tb, T, U, pp, nu, pc, rfl, h⟩
    · rw [show hh - j = (hh - (j + 1)) + 1 by omega] at hH
      obtain ⟨p, p2, h1, h2, B', h3, rfl⟩ := hH
      obtain ⟨tb2, T2, U2, pp2, pc2, e2, H2⟩ := r_hourOn (wx := wx) (wy := wy) (nu := nu) (pc := pc) hW hS h1 h2 h
      rw [if_neg (fun q => by have := (nI_leI (by omega) (by omega)).mp q; omega), e2, bnd_n, nI_1]
      exact ih (j + 1) (hA4 n w Wt wx wy A p p2) A' B' fx tb2 T2 U2 pp2 (nxt nu (brkN n w Wt A p)) pc2 (by omega) (by omega) (WA_hA4 hW hS h2) H2 h3
end CPass
