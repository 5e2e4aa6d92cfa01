/-! hours by calls -/
theorem Hrs_one {n k w : Nat} {Wt : Nat → Int32} {wx wy : Int32} (hS : WOK w Wt) : ∀ {r : Nat} {A A1 A2 : Nat → Nat → Int32} {B1 B2 : Int32}, WA n k A → Hrs n w Wt wx wy r A A1 B1 → Hrs n w Wt wx wy r A A2 B2 → A1 = A2 ∧ B1 = B2
  | 0, _, _, _, _, _, _, h1, h2 => ⟨h1.1.trans h2.1.symm, h1.2.trans h2.2.symm⟩
  | r + 1, A, A1, A2, B1, B2, hW, ⟨p, p2, h1, h2, B', h3, e⟩, ⟨q, q2, g1, g2, C', g3, f⟩ => by
    have hn := hW.1
    have a1 : hA1 n A p = hA1 n A q := by
      unfold hA1
      rw [EO_ext (A := stepW n A) (POK_one hn h1 g1)]
    have a2 : hA2 n w Wt A p = hA2 n w Wt A q := by unfold hA2; rw [a1]
    rw [← a2] at g2
    have a3 : hA3 n w Wt wx wy A p p2 = hA3 n w Wt wx wy A q q2 := by
      unfold hA3
      rw [a2, driftA_ext (POK_one hn (a2 ▸ h2) (a2 ▸ g2))]
    have a4 : hA4 n w Wt wx wy A p p2 = hA4 n w Wt wx wy A q q2 := by unfold hA4; rw [a3]
    rw [← a4] at g3
    obtain ⟨y1, y2⟩ := Hrs_one hS (WA_hA4 (wx := wx) (wy := wy) hW hS h2) h3 g3
    refine ⟨y1, ?_⟩
    rw [e, f, y2]
    unfold brkN
    rw [a1]
/-- who is lost or saved stays so -/
def KI (k : Nat) (A : Nat → Nat → Int32) : Prop := ∀ c, c < k → A kK_state c ≠ 0 → A kK_seat c = -1
theorem KI_end {k : Nat} {A : Nat → Nat → Int32} {E : Nat → Bool} {f : Int32} (h : KI k A) : KI k (endA E f A) ∧ ∀ c, c < k → A kK_state c ≠ 0 → endA E f A kK_state c = A kK_state c := by
  have es : ∀ c, endA E f A kK_seat c = if onE E (A kK_seat c) = true then -1 else A kK_seat c := fun _ => rfl
  have ek : ∀ c, endA E f A kK_state c = if onE E (A kK_seat c) = true then f else A kK_state c := fun _ => rfl
  refine ⟨fun c hc h0 => ?_, fun c hc h0 => ?_⟩
  · rw [es]
    by_cases q : onE E (A kK_seat c) = true
    · rw [if_pos q]
    · rw [ek, if_neg q] at h0
      rw [if_neg q]; exact h c hc h0
  · rw [ek, h c hc h0, onE_m1]
    exact if_neg (by decide)
theorem KI_Hrs {n k w : Nat} {Wt : Nat → Int32} {wx wy : Int32} : ∀ {r : Nat} {A A' : Nat → Nat → Int32} {B : Int32}, KI k A → Hrs n w Wt wx wy r A A' B → KI k A' ∧ ∀ c, c < k → A kK_state c ≠ 0 → A' kK_state c = A kK_state c
  | 0, _, _, _, h, hH => by rw [hH.1]; exact ⟨h, fun _ _ _ => rfl⟩
  | r + 1, A, A', B, h, ⟨p, p2, h1, h2, B', h3, e⟩ => by
    have k0 : KI k (stepW n A) := h
    obtain ⟨k1, s1⟩ := KI_end (E := EO n (stepW n A) p) (f := 1) k0
    have k3 : KI k (hA3 n w Wt wx wy A p p2) := k1
    obtain ⟨k4, s4⟩ := KI_end (E := ES n (hA3 n w Wt wx wy A p p2)) (f := 2) k3
    obtain ⟨k5, s5⟩ := KI_Hrs (A := hA4 n w Wt wx wy A p p2) k4 h3
    refine ⟨k5, fun c hc h0 => ?_⟩
    have t1 : hA3 n w Wt wx wy A p p2 kK_state c = A kK_state c := s1 c hc h0
    have t4 : hA4 n w Wt wx wy A p p2 kK_state c = A kK_state c := (s4 c hc (by rw [t1]; exact h0)).trans t1
    rw [s5 c hc (by rw [t4]; exact h0), t4]
theorem sim_pass (S : Nat → Nat → Int32) (a1 : Int32) (h : Rel S) : ∃ (q : Nat ⊕ (Int32 × Int32 × Int32 × (Nat → Int32) × (Nat → Int32) × (Nat → Int32) × (Nat → Int32) × (Nat → Int32) × (Nat → Int32) × (Nat → Int32) × (Nat → Int32) × (Nat → Int32) × (Nat → Int32) × (Nat → Int32) × Int32 × (Nat → Int32) × (Nat → Int32) × (Nat → Int32) × (Nat → Int32))) (q' : Int32 × Int32 × (Nat → Int32) × (Nat → Int32) × (Nat → Int32) × (Nat → Int32) × (Nat → Int32) × (Nat → Int32)), jX6_pass (S 5 0) (S 6 0) (S 7 0) (S 1) (S 2) (S 3) (S 4) (S 10 0) (S 11 0) (S 8) (S 9) (S 23 0) (S 14) (S 15) (S 16) (S 17) (S 18) (S 19) (S 20) (S 21) (S 22) (S 26 0) (S 24) (S 25) (S 31 0) (S 27) (S 28) (S 29) (S 30) a1 = some q ∧ jX7_pass (S 60 0) (S 61 0) (S 63 0) (S 64 0) (S 65 0) (S 67 0) (S 62) (S 66) (S 68) (S 69) (S 70) (S 71) (S 72) (S 73) a1 = some q' ∧ q'.2.1 = sel q kcL_pass (fun _ => 0) ∧ (∀ k, q = .inl k → k ∈ [1] ∧ Rel (up (up (up (up (up (up (up S 60 (fun _ => q'.2.1)) 68 q'.2.2.1) 69 q'.2.2.2.1) 70 q'.2.2.2.2.1) 71 q'.2.2.2.2.2.1) 72 q'.2.2.2.2.2.2.1) 73 q'.2.2.2.2.2.2.2)) ∧ (∀ u, q = .inr u → q'.1 = u.1 ∧ Rel (up (up (up (up (up (up (up (up (up (up (up (up (up (up (up (up (up (up (up (up (up (up (up (up (up S 10 (fun _ => u.2.1)) 11 (fun _ => u.2.2.1)) 8 u.2.2.2.1) 9 u.2.2.2.2.1) 16 u.2.2.2.2.2.1) 17 u.2.2.2.2.2.2.1) 18 u.2.2.2.2.2.2.2.1) 19 u.2.2.2.2.2.2.2.2.1) 20 u.2.2.2.2.2.2.2.2.2.1) 21 u.2.2.2.2.2.2.2.2.2.2.1) 22 u.2.2.2.2.2.2.2.2.2.2.2.1) 24 u.2.2.2.2.2.2.2.2.2.2.2.2.1) 25 u.2.2.2.2.2.2.2.2.2.2.2.2.2.1) 31 (fun _ => u.2.2.2.2.2.2.2.2.2.2.2.2.2.2.1)) 27 u.2.2.2.2.2.2.2.2.2.2.2.2.2.2.2.1) 28 u.2.2.2.2.2.2.2.2.2.2.2.2.2.2.2.2.1) 29 u.2.2.2.2.2.2.2.2.2.2.2.2.2.2.2.2.2.1) 30 u.2.2.2.2.2.2.2.2.2.2.2.2.2.2.2.2.2.2) 60 (fun _ => q'.2.1)) 68 q'.2.2.1) 69 q'.2.2.2.1) 70 q'.2.2.2.2.1) 71 q'.2.2.2.2.2.1) 72 q'.2.2.2.2.2.2.1) 73 q'.2.2.2.2.2.2.2)) := by
  have failR : ∀ C : Int32, Rel (up (up (up (up (up (up (up S 60 (fun _ => C)) 68 (S 68)) 69 (S 69)) 70 (S 70)) 71 (S 71)) 72 (S 72)) 73 (S 73)) := fun C => Rel_upS (k := 73) (f := S 73) rfl (Rel_upS (k := 72) (f := S 72) rfl (Rel_upS (k := 71) (f := S 71) rfl (Rel_upS (k := 70) (f := S 70) rfl (Rel_upS (k := 69) (f := S 69) rfl (Rel_upS (k := 68) (f := S 68) rfl (Rel_up (k := 60) (f := fun _ => C) rfl h))))))
  obtain ⟨n, k, w, m, r, κ, hB⟩ := h
  have hC := RB_CR hB
  obtain ⟨⟨s1, s2, s3, s4, s5, s6, s7⟩, ⟨w1, w2⟩, ⟨t1, t2, t3, t4, t5⟩, hW, hR, hS, hP, hQ, hc, hz, hK⟩ := hB
  rcases a_upto (C := 100) (by omega) a1 with ⟨hh, h1, h2, rfl, c1, c2, e⟩ | ⟨hno, e⟩
  · obtain ⟨A', B, pl', pd', wa', go', pe', st', x', y', p', se', ks', m', qf', qs', qt', qu', κ', e1, hH, hC', hP', hm', hQ'⟩ := c_passHours (wx := S 6 0) (wy := S 7 0) (ho := S 10 0) (br := S 11 0) (pl := S 8) (pd := S 9) hS (by omega : hh < 900) hW hC hP hQ
    obtain ⟨tb', T', U', pp', nu', pc', e2, hR', hN⟩ := r_passL (wx := S 6 0) (wy := S 7 0) hS.1 (by omega : hh < 900) FU 0 S A' B (S 66) (S 68) (S 69) (S 70) (S 71) (S 72) (S 73) 0 (by omega) (by unfold FU; omega) hW hR (by rw [Nat.sub_zero]; exact hH)
    have s1' : S 23 0 = nI n := s1
    have s2' : S 65 0 = nI n := s2
    have s3' : S 26 0 = nI k := s3
    have s4' : S 67 0 = nI k := s4
    have s5' : S 5 0 = nI w := s5
    have s6' : S 61 0 = nI w := s6
    have s7' : S 31 0 = nI m := s7
    have w1' : S 63 0 = S 6 0 := w1.symm
    have w2' : S 64 0 = S 7 0 := w2.symm
    refine ⟨.inr (S 11 0 + B - S 11 0, S 10 0 + nI hh, S 11 0 + B, pl', pd', wa', go', pe', st', x', y', p', se', ks', nI m', qf', qs', qt', qu'), (0 + B, 0, tb', T', U', pp', nu', pc'), ?_, ?_, rfl, fun k hk => (by cases hk), fun u hu => ?_⟩
    · unfold jX6_pass
      rw [if_neg c1, if_pos (show nI hh ≤ 100 from c2), s1', s3', s5', s7']
      refine bnd_i e1 rfl
    · unfold jX7_pass
      rw [show jX7_isIn (nI hh) 1 100 = some 1 from e, bnd_n, if_neg one_ne, s2', s4', s6', w1', w2']
      refine bnd_i e2 rfl
    · cases hu
      rw [Nat.sub_zero] at hN
      obtain ⟨n0, n1, n2⟩ := hN
      refine ⟨?_, n, k, w, m', r, κ', RelB_of (A := A') (WA_Hrs hS.1 hW hH) hR' hC' hP' hQ' ⟨s1, s2, s3, s4, s5, s6, rfl⟩ ⟨w1, w2⟩ ⟨?_, t2, ?_, ?_, by omega⟩ hS hc (KI_Hrs hK hH).1⟩
      · show 0 + B = S 11 0 + B - S 11 0
        grind
      · show S 10 0 + nI hh = nu' 0
        rw [n0, show S 10 0 = S 72 0 from t1]
      · show nu' 1 = nI r
        rw [n1]; exact t3
      · show S 11 0 + B = nu' 2
        rw [n2, show S 11 0 = S 72 2 from t4]
  · refine ⟨.inl 1, (0, 1, S 68, S 69, S 70, S 71, S 72, S 73), ?_, ?_, rfl, fun k hk => ⟨by cases hk; simp, failR _⟩, fun u hu => (by cases hu)⟩
    · unfold jX6_pass
      by_cases c1 : a1 < 1
      · rw [if_pos c1]
      · rw [if_neg c1, if_neg (show ¬ a1 ≤ 100 from hno.resolve_left c1)]
    · unfold jX7_pass
      rw [show jX7_isIn a1 1 100 = some 0 from e, bnd_n, if_pos rfl, r_fail1, bnd_n]
/-! what would come is tried out -/
theorem cpy_at {f g : Nat → Int32} {c j : Nat} (hc : c < 2 ^ 31) (h : j < c) : cpy f g 0 0 (nI c) j = f j := by
  have := cpy_n (f := f) (g := g) (d := 0) (c := c) (by omega) hc
  rw [show cpy f g 0 0 (nI c) = cpy f g 0 (nI 0) (nI c) from rfl, this]
  dsimp only
  rw [if_pos (by omega), Nat.sub_zero]
section Copy
variable {n k m : Nat} {A : Nat → Nat → Int32} {co ro li lk wa go pe st x y p se ks f s t u T U : Nat → Int32} {κ : Nat → Nat} {ho br : Int32}
theorem c_copy (hn : n ≤ 24) (hk : k ≤ 8) (hC : CR n k A li lk wa go pe st x y se ks) (hP : PN n A p) (Q : QOK m f s t u κ T U) (th tbr tn tkn tqn : Int32) (tco tro tli tlk twa tgo tpe tst tx ty tp tse tks tqf tqs tqt tqu : Nat → Int32) :
    ∃ co' ro' li' lk' wa' go' pe' st' x' y' p' se' ks' f' s' t' u', jX3_copyFrom th tbr tn tco tro tli tlk twa tgo tpe tst tx ty tp tkn tse tks tqn tqf tqs tqt tqu ho br (nI n) co ro li lk wa go pe st x y p (nI k) se ks (nI m) f s t u = some (ho, br, nI n, co', ro', li', lk', wa', go', pe', st', x', y', p', nI k, se', ks', nI m, f', s', t', u')
      ∧ CR n k A li' lk' wa' go' pe' st' x' y' se' ks' ∧ PN n A p' ∧ QOK m f' s' t' u' κ T U := by
  have ok24 : CPOK 24 24 0 0 24 := ⟨by decide, by decide, by decide, by decide, by decide⟩
  have ok8 : CPOK 8 8 0 0 8 := ⟨by decide, by decide, by decide, by decide, by decide⟩
  have ok48 : CPOK 48 48 0 0 48 := ⟨by decide, by decide, by decide, by decide, by decide⟩
  have c24 : ∀ (f g : Nat → Int32) (j : Nat), j < 24 → cpy f g 0 0 24 j = f j := fun f g j hj => cpy_at (c := 24) (by omega) hj
  have c8 : ∀ (f g : Nat → Int32) (j : Nat), j < 8 → cpy f g 0 0 8 j = f j := fun f g j hj => cpy_at (c := 8) (by omega) hj
  have c48 : ∀ (f g : Nat → Int32) (j : Nat), j < 48 → cpy f g 0 0 48 j = f j := fun f g j hj => cpy_at (c := 48) (by omega) hj
  refine ⟨cpy co tco 0 0 24, cpy ro tro 0 0 24, cpy li tli 0 0 24, cpy lk tlk 0 0 24, cpy wa twa 0 0 24, cpy go tgo 0 0 24, cpy pe tpe 0 0 24, cpy st tst 0 0 24, cpy x tx 0 0 24, cpy y ty 0 0 24, cpy p tp 0 0 24, cpy se tse 0 0 8, cpy ks tks 0 0 8, cpy f tqf 0 0 48, cpy s tqs 0 0 48, cpy t tqt 0 0 48, cpy u tqu 0 0 48, ?_, ⟨fun j hj => ?_, fun c hc => ?_, fun j hj hj' => ?_⟩, ⟨fun j hj h0 => ?_, fun a b hab => ?_, fun j hj h0 => ?_⟩, Q.1, Q.2.1, fun i hi => ?_⟩
  · unfold jX3_copyFrom jX0_copyFrom jX1_copyFrom jX2_copyFrom
    simp only [chkP_n ok24, chkP_n ok8, chkP_n ok48, bnd_n]
  · rw [c24 _ _ j (by omega), c24 _ _ j (by omega), c24 _ _ j (by omega), c24 _ _ j (by omega), c24 _ _ j (by omega), c24 _ _ j (by omega), c24 _ _ j (by omega), c24 _ _ j (by omega)]
    exact hC.1 j hj
  · rw [c8 _ _ c (by omega), c8 _ _ c (by omega)]
    exact hC.2.1 c hc
  · rw [c24 _ _ j (by omega), c24 _ _ j (by omega), c24 _ _ j (by omega), c24 _ _ j (by omega)]
    exact hC.2.2 j hj hj'
  · rw [c24 _ _ j (by omega)]; exact hP.1 j hj h0
  · have := hab.1
    have := hab.2.1
    rw [c24 _ _ a (by omega), c24 _ _ b (by omega)]; exact hP.2.1 a b hab
  · rw [c24 _ _ j (by omega)]; exact hP.2.2 j hj h0
  · have := Q.1
    rw [c48 _ _ i (by omega), c48 _ _ i (by omega), c48 _ _ i (by omega), c48 _ _ i (by omega)]
    exact Q.2.2 i hi
end Copy
