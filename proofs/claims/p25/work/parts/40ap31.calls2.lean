/-! goods, bailing, castaways, walks -/
theorem sim_load (S : Nat → Nat → Int32) (a1 a2 : Int32) (h : Rel S) : ∃ (q : Nat ⊕ (Int32 × (Nat → Int32))) (q' : Int32 × Int32 × (Nat → Int32)), jX6_load (S 23 0) (S 17) (S 19) a1 a2 = some q ∧ jX7_load (S 60 0) (S 65 0) (S 68) a1 a2 = some q' ∧ q'.2.1 = sel q kcL_load (fun _ => 0) ∧ (∀ k, q = .inl k → k ∈ [3, 1, 2] ∧ Rel (up (up S 60 (fun _ => q'.2.1)) 68 q'.2.2)) ∧ (∀ u, q = .inr u → q'.1 = u.1 ∧ Rel (up (up (up S 17 u.2) 60 (fun _ => q'.2.1)) 68 q'.2.2)) := by
  have fail : ∀ x, Rel (up (up S 60 (fun _ => x)) 68 (S 68)) := fun x => Rel_upS rfl (Rel_up (k := 60) (f := fun _ => x) rfl h)
  obtain ⟨n, k, w, m, r, κ, hB⟩ := h
  have hC := RB_CR hB
  obtain ⟨h1, h2, h3, hW, hR, hS, hP, hQ, hc, hz, hK⟩ := hB
  have hn := hW.1
  unfold jX6_load jX7_load
  rw [show S 23 0 = nI n from h1.1, show S 65 0 = nI n from h1.2.1]
  rcases a_bar (n := n) (by omega) a1 with ⟨b, hb, rfl, e1, e2⟩ | ⟨e1, e2⟩
  · rw [e1, bnd_n, if_neg one_ne, e2, bnd_n, if_neg one_ne, r_isIn]
    by_cases c1 : a2 < 0
    · rw [if_pos c1, if_pos c1, bnd_n, if_pos rfl]
      exact ⟨_, _, rfl, rfl, rfl, fun k hk => ⟨by cases hk; simp, fail _⟩, fun u hu => (by cases hu)⟩
    · by_cases c2 : a2 ≤ 30
      · rw [if_neg c1, if_neg c1, if_pos c2, if_neg (Int32.not_lt.mpr c2), bnd_n, if_neg one_ne, c_floats hn hb, bnd_n, r_floats (by omega), bnd_n, (hR.1 b hb).2.2.2.2.1]
        by_cases hs : S 19 b = 0
        · obtain ⟨g, hg, rfl⟩ := nI_of (x := a2) c1
          have hg30 := (nI_leI (b := 30) hg (by omega)).mp c2
          rw [if_pos hs, if_neg one_ne, if_neg one_ne, chk_n (by omega) (by omega), chk_n (by omega) (by omega), rd_n (by omega), wr_n (by omega), r_ba1 (by omega), bnd_n, r_set1 (by omega), bnd_n]
          refine ⟨_, _, rfl, rfl, rfl, fun k hk => (by cases hk), fun u hu => ?_⟩
          cases hu
          refine ⟨(hR.1 b hb).2.2.2.1, n, k, w, m, r, κ, RelB_of (A := up S 17 (upd (S 17) b (nI g))) ?_ ?_ ?_ hP hQ h1 h2 h3 hS hc hK⟩
          · obtain ⟨q1, q2, q3, q4, q5, q6, q7⟩ := hW
            refine ⟨q1, q2, fun j hj => ?_, q4, q5, q6, q7⟩
            obtain ⟨p1, p2, p3, p4⟩ := q3 j hj
            refine ⟨p1, p2, ?_, p4⟩
            show ∃ g', g' ≤ 30 ∧ upd (S 17) b (nI g) j = nI g'
            by_cases e : j = b
            · rw [e, upd_a]; exact ⟨g, hg30, rfl⟩
            · rw [upd_b e]; exact p3
          · refine ⟨fun j hj => ?_, hR.2⟩
            obtain ⟨p1, p2, p3, p4, p5, p6, p7⟩ := hR.1 j hj
            refine ⟨p1, p2, ?_, ?_, ?_, ?_, ?_⟩
            · show upd (S 68) (5 * b + 1) (nI g) (5 * j + 0) = S 16 j
              rw [upd_b (by omega)]; exact p3
            · show upd (S 68) (5 * b + 1) (nI g) (5 * j + 1) = upd (S 17) b (nI g) j
              by_cases e : j = b
              · rw [e, upd_a, upd_a]
              · rw [upd_b (by omega), upd_b e]; exact p4
            · show upd (S 68) (5 * b + 1) (nI g) (5 * j + 2) = S 19 j
              rw [upd_b (by omega)]; exact p5
            · show upd (S 68) (5 * b + 1) (nI g) (5 * j + 3) = S 20 j
              rw [upd_b (by omega)]; exact p6
            · show upd (S 68) (5 * b + 1) (nI g) (5 * j + 4) = S 21 j
              rw [upd_b (by omega)]; exact p7
          · refine ⟨fun _ _ => ⟨rfl, rfl, rfl, rfl, rfl, rfl, rfl, rfl⟩, fun _ _ => ⟨rfl, rfl⟩, fun j hj hj' => ?_⟩
            obtain ⟨p1, p2, p3, p4⟩ := hz j hj hj'
            refine ⟨p1, ?_, p3, p4⟩
            show upd (S 17) b (nI g) j = 0
            rw [upd_b (by omega)]; exact p2
        · rw [if_neg hs, if_pos rfl, if_pos rfl]
          exact ⟨_, _, rfl, rfl, rfl, fun k hk => ⟨by cases hk; simp, fail _⟩, fun u hu => (by cases hu)⟩
      · rw [if_neg c1, if_neg c1, if_neg c2, if_pos (Int32.not_le.mp c2), bnd_n, if_pos rfl]
        exact ⟨_, _, rfl, rfl, rfl, fun k hk => ⟨by cases hk; simp, fail _⟩, fun u hu => (by cases hu)⟩
  · rw [e1, bnd_n, if_pos rfl, e2, bnd_n, if_pos rfl]
    exact ⟨_, _, rfl, rfl, rfl, fun k hk => ⟨by cases hk; simp, fail _⟩, fun u hu => (by cases hu)⟩
theorem sim_bail (S : Nat → Nat → Int32) (a1 : Int32) (h : Rel S) : ∃ (q : Nat ⊕ (Int32 × (Nat → Int32))) (q' : Int32 × Int32 × (Nat → Int32)), jX6_bail (S 23 0) (S 16) (S 26 0) (S 24) a1 = some q ∧ jX7_bail (S 60 0) (S 67 0) (S 68) (S 71) a1 = some q' ∧ q'.2.1 = sel q kcL_bail (fun _ => 0) ∧ (∀ k, q = .inl k → k ∈ [3, 2] ∧ Rel (up (up S 60 (fun _ => q'.2.1)) 68 q'.2.2)) ∧ (∀ u, q = .inr u → q'.1 = u.1 ∧ Rel (up (up (up S 16 u.2) 60 (fun _ => q'.2.1)) 68 q'.2.2)) := by
  have fail : ∀ x, Rel (up (up S 60 (fun _ => x)) 68 (S 68)) := fun x => Rel_upS rfl (Rel_up (k := 60) (f := fun _ => x) rfl h)
  obtain ⟨n, k, w, m, r, κ, hB⟩ := h
  have hC := RB_CR hB
  obtain ⟨h1, h2, h3, hW, hR, hS, hP, hQ, hc, hz, hK⟩ := hB
  have hn := hW.1
  have hk := hW.2.1
  unfold jX6_bail jX7_bail
  rw [show S 23 0 = nI n from h1.1, show S 26 0 = nI k from h1.2.2.1, show S 67 0 = nI k from h1.2.2.2.1]
  rcases a_person (n := k) (by omega) a1 with ⟨c, hcc, rfl, e1, e2⟩ | ⟨e1, e2⟩
  · rw [e1, bnd_n, if_neg one_ne, e2, bnd_n, if_neg one_ne, chk_n (by omega) (by omega), rd_n (by omega), l2, pk_mul, chk_n (by omega) (by omega), rd_n (by omega), (hR.2.2.2.1 c hcc).1]
    rcases hW.2.2.2.1 c hcc with es | ⟨b, hb, es, hs⟩
    · have es' : S 24 c = -1 := es
      rw [es, c_has_m1, bnd_n, if_pos rfl, if_pos rfl]
      exact ⟨_, _, rfl, rfl, rfl, fun k hk => ⟨by cases hk; simp, fail _⟩, fun u hu => (by cases hu)⟩
    · have es' : S 24 c = nI b := es
      rw [es, c_has (by omega) (by omega), if_pos hb, bnd_n, if_neg one_ne, if_neg (n_m1 (by omega)), chk_n (by omega) (by omega), chk_n (by omega) (by omega), chk_n (by omega) (by omega), rd_n (by omega), rd_n (by omega), wr_n (by omega), upd_a, r_ba0 (by omega), bnd_n, r_set0 (by omega), bnd_n, r_ba0 (by omega), bnd_n, upd_a, (hR.1 b hb).2.2.1]
      refine ⟨_, _, rfl, rfl, rfl, fun k hk => (by cases hk), fun u hu => ?_⟩
      cases hu
      refine ⟨rfl, n, k, w, m, r, κ, RelB_of (A := up S 16 (upd (S 16) b (mmax 0 (S 16 b - 25)))) hW ?_ ?_ hP hQ h1 h2 h3 hS hc hK⟩
      · refine ⟨fun j hj => ?_, hR.2⟩
        obtain ⟨p1, p2, p3, p4, p5, p6, p7⟩ := hR.1 j hj
        refine ⟨p1, p2, ?_, ?_, ?_, ?_, ?_⟩
        · show upd (S 68) (5 * b + 0) (mmax 0 (S 16 b - 25)) (5 * j + 0) = upd (S 16) b (mmax 0 (S 16 b - 25)) j
          by_cases e : j = b
          · rw [e, upd_a, upd_a]
          · rw [upd_b (by omega), upd_b e]; exact p3
        · show upd (S 68) (5 * b + 0) (mmax 0 (S 16 b - 25)) (5 * j + 1) = S 17 j
          rw [upd_b (by omega)]; exact p4
        · show upd (S 68) (5 * b + 0) (mmax 0 (S 16 b - 25)) (5 * j + 2) = S 19 j
          rw [upd_b (by omega)]; exact p5
        · show upd (S 68) (5 * b + 0) (mmax 0 (S 16 b - 25)) (5 * j + 3) = S 20 j
          rw [upd_b (by omega)]; exact p6
        · show upd (S 68) (5 * b + 0) (mmax 0 (S 16 b - 25)) (5 * j + 4) = S 21 j
          rw [upd_b (by omega)]; exact p7
      · refine ⟨fun _ _ => ⟨rfl, rfl, rfl, rfl, rfl, rfl, rfl, rfl⟩, fun _ _ => ⟨rfl, rfl⟩, fun j hj hj' => ?_⟩
        obtain ⟨p1, p2, p3, p4⟩ := hz j hj hj'
        refine ⟨?_, p2, p3, p4⟩
        show upd (S 16) b (mmax 0 (S 16 b - 25)) j = 0
        rw [upd_b (by omega)]; exact p1
  · rw [e1, bnd_n, if_pos rfl, e2, bnd_n, if_pos rfl]
    exact ⟨_, _, rfl, rfl, rfl, fun k hk => ⟨by cases hk; simp, fail _⟩, fun u hu => (by cases hu)⟩
theorem sim_addCastaway (S : Nat → Nat → Int32) (a1 : Int32) (h : Rel S) : ∃ (q : Nat ⊕ (Int32 × (Nat → Int32) × Int32 × (Nat → Int32) × (Nat → Int32))) (q' : Int32 × Int32 × Int32 × (Nat → Int32)), jX6_addCastaway (S 23 0) (S 18) (S 19) (S 26 0) (S 24) (S 25) a1 = some q ∧ jX7_addCastaway (S 60 0) (S 65 0) (S 67 0) (S 68) (S 71) a1 = some q' ∧ q'.2.1 = sel q kcL_addCastaway (fun _ => 0) ∧ (∀ k, q = .inl k → k ∈ [3, 2] ∧ Rel (up (up (up S 60 (fun _ => q'.2.1)) 67 (fun _ => q'.2.2.1)) 71 q'.2.2.2)) ∧ (∀ u, q = .inr u → q'.1 = u.1 ∧ Rel (up (up (up (up (up (up (up S 18 u.2.1) 26 (fun _ => u.2.2.1)) 24 u.2.2.2.1) 25 u.2.2.2.2) 60 (fun _ => q'.2.1)) 67 (fun _ => q'.2.2.1)) 71 q'.2.2.2)) := by
  have fail : ∀ x, Rel (up (up (up S 60 (fun _ => x)) 67 (fun _ => S 67 0)) 71 (S 71)) := fun x => Rel_upS (k := 71) (f := S 71) rfl (Rel_up0 (k := 67) (by simp) (Rel_up (k := 60) (f := fun _ => x) rfl h))
  obtain ⟨n, k, w, m, r, κ, hB⟩ := h
  have hC := RB_CR hB
  obtain ⟨h1, h2, h3, hW, hR, hS, hP, hQ, hc, hz, hK⟩ := hB
  have hn := hW.1
  have hk := hW.2.1
  have s4 : S 67 0 = nI k := h1.2.2.2.1
  unfold jX6_addCastaway jX7_addCastaway
  rw [show S 23 0 = nI n from h1.1, show S 65 0 = nI n from h1.2.1, show S 26 0 = nI k from h1.2.2.1]
  rcases a_bar (n := n) (by omega) a1 with ⟨b, hb, rfl, e1, e2⟩ | ⟨e1, e2⟩
  · rw [e1, bnd_n, if_neg one_ne, e2, bnd_n, if_neg one_ne, c_floats hn hb, bnd_n, r_floats (by omega), bnd_n, (hR.1 b hb).2.2.2.2.1]
    by_cases hs : S 19 b = 0
    · rw [if_pos hs, if_neg one_ne, if_neg one_ne]
      by_cases hk8 : k = 8
      · have h8 : S 67 0 = 8 := by rw [s4, hk8]; rfl
        rw [if_neg (show ¬ nI k < 8 by rw [hk8]; decide), if_pos h8]
        exact ⟨_, _, rfl, rfl, rfl, fun k hk => ⟨by cases hk; simp, fail _⟩, fun u hu => (by cases hu)⟩
      · have h8 : ¬ S 67 0 = 8 := by rw [s4]; exact fun z => hk8 ((nI_eq (b := 8) (by omega) (by omega)).mp z)
        rw [if_pos (show nI k < 8 from (nI_ltI (b := 8) (by omega) (by omega)).mpr (by omega)), if_neg h8, s4, chk_n (by omega) (by omega), chk_n (by omega) (by omega)]
        unfold jX1_append
        rw [if_neg (show ¬ (8 : Int32) ≤ nI k from fun z => by have := (nI_leI (a := 8) (by omega) (by omega)).mp z; omega), chk_n (by omega) (by omega), chk_n (by omega) (by omega), bnd_n, rd_n (by omega), wr_n (by omega), wr_n (by omega), wr_n (by omega), nI_1, l2, pk_mul, chk_n (by omega) (by omega), wr_n (by omega), nI_pred]
        refine ⟨_, _, rfl, rfl, rfl, fun k hk => (by cases hk), fun u hu => ?_⟩
        cases hu
        have ecount : ∀ j, j < n → upd (S 18) b (S 18 b + 1) j = fs (fun c => if upd (S 24) k (nI b) c = nI j then 1 else 0) (k + 1) := fun j hj => by
          rw [fs, upd_a, fs_congr (h := fun c => if S 24 c = nI j then 1 else 0) (fun c hc => by rw [upd_b (by omega)])]
          have p4 : S 18 j = fs (fun c => if S 24 c = nI j then 1 else 0) k := (hW.2.2.1 j hj).2.2.2
          by_cases e : j = b
          · subst e
            rw [upd_a, if_pos rfl, p4]
          · rw [upd_b e, if_neg (fun z => e ((nI_eq (by omega) (by omega)).mp z).symm), Int32.add_zero, p4]
        refine ⟨rfl, n, k + 1, w, m, r, κ, RelB_of (A := up (up (up S 18 (upd (S 18) b (S 18 b + 1))) 24 (upd (S 24) k (nI b))) 25 (upd (S 25) k 0)) ?_ ?_ ?_ hP hQ ⟨h1.1, h1.2.1, rfl, rfl, h1.2.2.2.2.1, h1.2.2.2.2.2.1, h1.2.2.2.2.2.2⟩ h2 h3 hS hc ?_⟩
        · obtain ⟨q1, q2, q3, q4, q5, q6, q7⟩ := hW
          refine ⟨q1, by omega, fun j hj => ?_, fun c hcc => ?_, q5, q6, q7⟩
          · obtain ⟨p1, p2, p3, p4⟩ := q3 j hj
            exact ⟨p1, p2, p3, ecount j hj⟩
          · show upd (S 24) k (nI b) c = -1 ∨ ∃ b', b' < n ∧ upd (S 24) k (nI b) c = nI b' ∧ S 19 b' = 0
            by_cases e : c = k
            · rw [e, upd_a]; exact Or.inr ⟨b, hb, rfl, hs⟩
            · rw [upd_b e]; exact q4 c (by omega)
        · refine ⟨hR.1, hR.2.1, hR.2.2.1, fun c hcc => ?_, fun c hcc hc8 => ?_⟩
          · show upd (S 71) (2 * k) (nI b) (2 * c) = upd (S 24) k (nI b) c ∧ upd (S 71) (2 * k) (nI b) (2 * c + 1) = upd (S 25) k 0 c
            rw [upd_b (by omega : 2 * c + 1 ≠ 2 * k)]
            by_cases e : c = k
            · rw [e, upd_a, upd_a, upd_a]
              exact ⟨rfl, hR.2.2.2.2 k (Nat.le_refl _) (by omega)⟩
            · rw [upd_b (by omega), upd_b e, upd_b e]
              exact hR.2.2.2.1 c (by omega)
          · show upd (S 71) (2 * k) (nI b) (2 * c + 1) = 0
            rw [upd_b (by omega)]
            exact hR.2.2.2.2 c (by omega) hc8
        · refine ⟨fun _ _ => ⟨rfl, rfl, rfl, rfl, rfl, rfl, rfl, rfl⟩, fun _ _ => ⟨rfl, rfl⟩, fun j hj hj' => ?_⟩
          obtain ⟨p1, p2, p3, p4⟩ := hz j hj hj'
          refine ⟨p1, p2, ?_, p4⟩
          show upd (S 18) b (S 18 b + 1) j = 0
          rw [upd_b (by omega)]; exact p3
        · intro c hcc
          show upd (S 25) k 0 c ≠ 0 → upd (S 24) k (nI b) c = -1
          by_cases e : c = k
          · rw [e, upd_a]; exact fun z => absurd rfl z
          · rw [upd_b e, upd_b e]; exact hK c (by omega)
    · rw [if_neg hs, if_pos rfl, if_pos rfl]
      exact ⟨_, _, rfl, rfl, rfl, fun k hk => ⟨by cases hk; simp, fail _⟩, fun u hu => (by cases hu)⟩
  · rw [e1, bnd_n, if_pos rfl, e2, bnd_n, if_pos rfl]
    exact ⟨_, _, rfl, rfl, rfl, fun k hk => ⟨by cases hk; simp, fail _⟩, fun u hu => (by cases hu)⟩
theorem fs_at {g h : Nat → Int32} {n k : Nat} (hk : k < n) (e : ∀ j, j < n → j ≠ k → h j = g j) : fs h n = fs g n - g k + h k := by
  rw [← fs_upd hk]
  refine fs_congr fun j hj => ?_
  by_cases q : j = k
  · rw [q, upd_a]
  · rw [upd_b q]; exact e j hj q
theorem sim_go (S : Nat → Nat → Int32) (a1 a2 : Int32) (h : Rel S) : ∃ (q : Nat ⊕ (Int32 × (Nat → Int32) × (Nat → Int32))) (q' : Int32 × Int32 × (Nat → Int32)), jX6_go (S 23 0) (S 18) (S 26 0) (S 24) (S 31 0) (S 27) (S 28) a1 a2 = some q ∧ jX7_go (S 60 0) (S 65 0) (S 67 0) (S 69) (S 71) a1 a2 = some q' ∧ q'.2.1 = sel q kcL_go (fun _ => 0) ∧ (∀ k, q = .inl k → k ∈ [3, 2] ∧ Rel (up (up S 60 (fun _ => q'.2.1)) 71 q'.2.2)) ∧ (∀ u, q = .inr u → q'.1 = u.1 ∧ Rel (up (up (up (up S 18 u.2.1) 24 u.2.2) 60 (fun _ => q'.2.1)) 71 q'.2.2)) := by
  have fail : ∀ x, Rel (up (up S 60 (fun _ => x)) 71 (S 71)) := fun x => Rel_upS rfl (Rel_up (k := 60) (f := fun _ => x) rfl h)
  obtain ⟨n, k, w, m, r, κ, hB⟩ := h
  have hC := RB_CR hB
  obtain ⟨h1, h2, h3, hW, hR, hS, hP, hQ, hc, hz, hK⟩ := hB
  have hn := hW.1
  have hk := hW.2.1
  have hm := hQ.1
  unfold jX6_go jX7_go
  rw [show S 23 0 = nI n from h1.1, show S 65 0 = nI n from h1.2.1, show S 26 0 = nI k from h1.2.2.1, show S 67 0 = nI k from h1.2.2.2.1, show S 31 0 = nI m from h1.2.2.2.2.2.2]
  rcases a_person (n := k) (by omega) a1 with ⟨c, hcc, rfl, e1, e2⟩ | ⟨e1, e2⟩
  · rw [e1, bnd_n, if_neg one_ne, e2, bnd_n, if_neg one_ne]
    rcases a_bar (n := n) (by omega) a2 with ⟨b, hb, rfl, e1, e2⟩ | ⟨e1, e2⟩
    · rw [e1, bnd_n, if_neg one_ne, e2, bnd_n, if_neg one_ne, chk_n (by omega) (by omega), rd_n (f := S 24) (by omega), l2, pk_mul, chk_n (n := 16) (j := 2 * c) (by omega) (by omega), rd_n (f := S 71) (j := 2 * c) (by omega), (hR.2.2.2.1 c hcc).1]
      rcases hW.2.2.2.1 c hcc with es | ⟨f, hf, es, hs⟩
      · have es' : S 24 c = -1 := es
        rw [es, c_has_m1, bnd_n, if_pos rfl, if_pos rfl, r_fail1, bnd_n]
        exact ⟨.inl 2, (0, 2, S 71), rfl, rfl, rfl, fun k hk => ⟨by cases hk; simp, fail _⟩, fun u hu => (by cases hu)⟩
      · have es' : S 24 c = nI f := es
        rw [es, c_has (by omega) (by omega), if_pos hf, bnd_n, if_neg one_ne, if_neg (n_m1 (by omega))]
        obtain ⟨f1, f2⟩ := c_find hQ (by omega : f < 24) (by omega : b < 24)
        by_cases hfb : f = b
        · subst hfb
          have h0 : ¬ 0 < S 69 (pr f f) := fun z => by
            obtain ⟨c', d', k1, k2, k3, -⟩ := hW.2.2.2.2.1 _ (pr_lt (by omega) (by omega)) (i_pos_ne z)
            unfold pr at k1
            omega
          rw [show jX2_find (nI m) (S 27) (S 28) (nI f) (nI f) = some (-1) from f2 h0, bnd_n, if_neg (by decide), if_pos rfl, r_fail1, bnd_n]
          exact ⟨.inl 2, (0, 2, S 71), rfl, rfl, rfl, fun k hk => ⟨by cases hk; simp, fail _⟩, fun u hu => (by cases hu)⟩
        · have hne : ¬ nI f = nI b := fun z => hfb ((nI_eq (by omega) (by omega)).mp z)
          rw [if_neg hne, r_tied (by omega) (by omega), bnd_n]
          by_cases h0 : 0 < S 69 (pr f b)
          · obtain ⟨i, hi, hki, e⟩ := f1 h0
            have hs2 : S 19 b = 0 := by
              obtain ⟨c', d', k1, k2, k3, k4, k5, -⟩ := hW.2.2.2.2.1 _ (pr_lt (by omega) (by omega)) (i_pos_ne h0)
              rcases pr_cases k1 k2 (by omega) (by omega) (by omega) with ⟨rfl, rfl⟩ | ⟨rfl, rfl⟩
              · exact k5
              · exact k4
            have hfb' : b ≠ f := fun z => hfb z.symm
            rw [show jX2_find (nI m) (S 27) (S 28) (nI f) (nI b) = some (nI i) from e, bnd_n, if_pos (n_nonneg (by omega)), if_pos h0, if_neg one_ne, chk_n (by omega) (by omega), chk_n (by omega) (by omega), chk_n (by omega) (by omega), chk_n (by omega) (by omega), chk_n (by omega) (by omega), chk_n (by omega) (by omega), chk_n (by omega) (by omega), rd_n (by omega), rd_n (by omega), rd_n (by omega), wr_n (by omega), wr_n (by omega), wr_n (by omega), wr_n (by omega), upd_a, upd_b hfb']
            have hcnt : ∀ j, j < n → upd (upd (S 18) f (S 18 f - 1)) b (S 18 b + 1) j = fs (fun c' => if upd (S 24) c (nI b) c' = nI j then 1 else 0) k := fun j hj => by
              have p4 : S 18 j = fs (fun c => if S 24 c = nI j then 1 else 0) k := (hW.2.2.1 j hj).2.2.2
              rw [fs_at (g := fun c => if S 24 c = nI j then 1 else 0) hcc (fun c' _ hne => by rw [upd_b hne]), ← p4, upd_a, es']
              by_cases q1 : j = b
              · subst q1
                rw [upd_a, if_pos rfl, if_neg hne, Int32.sub_zero]
              · rw [upd_b q1, if_neg (fun z => q1 ((nI_eq (by omega) (by omega)).mp z).symm), Int32.add_zero]
                by_cases q2 : j = f
                · subst q2
                  rw [upd_a, if_pos rfl]
                · rw [upd_b q2, if_neg (fun z => q2 ((nI_eq (by omega) (by omega)).mp z).symm), Int32.sub_zero]
            have hpp : ∀ c', c' < k → upd (S 71) (2 * c) (nI b) (2 * c') = upd (S 24) c (nI b) c' := fun c' hc' => by
              by_cases q : c' = c
              · rw [q, upd_a, upd_a]
              · rw [upd_b (by omega), upd_b q]; exact (hR.2.2.2.1 c' hc').1
            have hcrew : jX7_crewOn (nI k) (upd (S 71) (2 * c) (nI b)) (nI b) = some (S 18 b + 1) := by
              rw [r_crewOn hk]
              have := hcnt b hb
              rw [upd_a] at this
              rw [this]
              exact congrArg some (fs_congr fun c' hc' => by rw [hpp c' hc'])
            rw [hcrew, bnd_n]
            refine ⟨_, _, rfl, rfl, rfl, fun k hk => (by cases hk), fun u hu => ?_⟩
            cases hu
            refine ⟨rfl, n, k, w, m, r, κ, RelB_of (A := up (up S 18 (upd (upd (S 18) f (S 18 f - 1)) b (S 18 b + 1))) 24 (upd (S 24) c (nI b))) ?_ ?_ ?_ hP hQ h1 h2 h3 hS hc ?_⟩
            · obtain ⟨q1, q2, q3, q4, q5, q6, q7⟩ := hW
              refine ⟨q1, q2, fun j hj => ?_, fun c' hc' => ?_, q5, q6, q7⟩
              · obtain ⟨p1, p2, p3, p4⟩ := q3 j hj
                exact ⟨p1, p2, p3, hcnt j hj⟩
              · show upd (S 24) c (nI b) c' = -1 ∨ ∃ b', b' < n ∧ upd (S 24) c (nI b) c' = nI b' ∧ S 19 b' = 0
                by_cases q : c' = c
                · rw [q, upd_a]; exact Or.inr ⟨b, hb, rfl, hs2⟩
                · rw [upd_b q]; exact q4 c' hc'
            · refine ⟨hR.1, hR.2.1, hR.2.2.1, fun c' hc' => ⟨hpp c' hc', ?_⟩, fun c' hc' hc8 => ?_⟩
              · show upd (S 71) (2 * c) (nI b) (2 * c' + 1) = S 25 c'
                rw [upd_b (by omega)]; exact (hR.2.2.2.1 c' hc').2
              · show upd (S 71) (2 * c) (nI b) (2 * c' + 1) = 0
                rw [upd_b (by omega)]; exact hR.2.2.2.2 c' hc' hc8
            · refine ⟨fun _ _ => ⟨rfl, rfl, rfl, rfl, rfl, rfl, rfl, rfl⟩, fun _ _ => ⟨rfl, rfl⟩, fun j hj hj' => ?_⟩
              obtain ⟨p1, p2, p3, p4⟩ := hz j hj hj'
              refine ⟨p1, p2, ?_, p4⟩
              show upd (upd (S 18) f (S 18 f - 1)) b (S 18 b + 1) j = 0
              rw [upd_b (by omega), upd_b (by omega)]; exact p3
            · intro c' hc'
              show S 25 c' ≠ 0 → upd (S 24) c (nI b) c' = -1
              by_cases q : c' = c
              · intro hh
                rw [q] at hh
                have := hK c hcc hh
                rw [es] at this
                exact absurd this (n_m1 (by omega))
              · rw [upd_b q]; exact hK c' hc'
          · rw [show jX2_find (nI m) (S 27) (S 28) (nI f) (nI b) = some (-1) from f2 h0, bnd_n, if_neg (by decide), if_neg h0, if_pos rfl, r_fail1, bnd_n]
            exact ⟨.inl 2, (0, 2, S 71), rfl, rfl, rfl, fun k hk => ⟨by cases hk; simp, fail _⟩, fun u hu => (by cases hu)⟩
    · rw [e1, bnd_n, if_pos rfl, e2, bnd_n, if_pos rfl]
      exact ⟨_, _, rfl, rfl, rfl, fun k hk => ⟨by cases hk; simp, fail _⟩, fun u hu => (by cases hu)⟩
  · rw [e1, bnd_n, if_pos rfl, e2, bnd_n, if_pos rfl]
    exact ⟨_, _, rfl, rfl, rfl, fun k hk => ⟨by cases hk; simp, fail _⟩, fun u hu => (by cases hu)⟩
