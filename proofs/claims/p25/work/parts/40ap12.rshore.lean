/-! those at the shore are saved -/
def ES (n : Nat) (A : Nat → Nat → Int32) : Nat → Bool := fun j => decide (j < n ∧ A kB_state j = 0 ∧ A kB_x j = 29)
def ESv (n : Nat) (A : Nat → Nat → Int32) (p : Nat → Int32) (v : Nat) : Nat → Bool := fun j => decide (j < n ∧ ¬ p j < 0 ∧ (p j).toNatClampNeg < v ∧ A kB_x (p j).toNatClampNeg = 29)
theorem r_shore {n k : Nat} {A : Nat → Nat → Int32} {fx tb T U pp p : Nat → Int32} {R : Nat → Nat → Prop} (hW : WA n k A) (hP : POK n (A kB_state) R p) (hX : ∀ i j, conn R i j → A kB_x i = A kB_x j) (h : RM n k A fx tb T U pp) :
    ∃ tb' T' U' pp', jX7_hourOn_L406 (nI n) (nI k) p FU tb T U pp 0 = some (tb', T', U', pp') ∧ RM n k (endA (ES n A) 2 A) fx tb' T' U' pp' := by
  have hn := hW.1
  have hk := hW.2.1
  refine (itI0 (s0 := (tb, T, U, pp)) (fun g (x : (Nat → Int32) × (Nat → Int32) × (Nat → Int32) × (Nat → Int32)) v => jX7_hourOn_L406 (nI n) (nI k) p g x.1 x.2.1 x.2.2.1 x.2.2.2 v) n
    (fun v x => RM n k (endA (ESv n A p v) 2 A) fx x.1 x.2.1 x.2.2.1 x.2.2.2) (fun x => RM n k (endA (ES n A) 2 A) fx x.1 x.2.1 x.2.2.1 x.2.2.2) (by omega) ?_ (fun g x hx => ?_) (fun g v x hv hx => ?_)).elim (fun r ⟨hr, h⟩ => ⟨r.1, r.2.1, r.2.2.1, r.2.2.2, hr, h⟩)
  · rw [show ESv n A p 0 = fun _ => false from E_ext fun j => by simp [ESv], endA_none]
    exact h
  · refine ⟨x, by rw [jX7_hourOn_L406, if_pos (Int32.le_refl _)], ?_⟩
    rw [show ES n A = ESv n A p n from E_ext fun j => by
      unfold ES ESv
      rw [decide_eq_true_eq, decide_eq_true_eq]
      constructor
      · rintro ⟨h1, h2, h3⟩
        obtain ⟨i, h4, h5, h6⟩ := hP.1 j h1 h2
        rw [h5, clamp_n (by omega)]
        exact ⟨h1, n_neg (by omega), by omega, (hX i j h6).trans h3⟩
      · rintro ⟨h1, h2, h3, h4⟩
        by_cases hs : A kB_state j = 0
        · obtain ⟨i, h5, h6, h7⟩ := hP.1 j h1 hs
          rw [h6, clamp_n (by omega)] at h4
          exact ⟨h1, hs, (hX i j h7).symm.trans h4⟩
        · exact absurd (by rw [hP.2.2 j h1 hs]; exact m1_neg) h2]
    exact hx
  · obtain ⟨tb1, T1, U1, pp1⟩ := x
    dsimp only at hx ⊢
    have hother : ∀ j, j < n → ¬ p j < 0 → (p j).toNatClampNeg = v → p j = nI v := fun j hj h1 h2 => by
      by_cases hs : A kB_state j = 0
      · obtain ⟨i, h4, h5, -⟩ := hP.1 j hj hs
        rw [h5, clamp_n (by omega)] at h2
        rw [h5, h2]
      · exact absurd (by rw [hP.2.2 j hj hs]; exact m1_neg) h1
    have hx3 : tb1 (5 * v + 3) = A kB_x v := (hx.1 v hv).2.2.2.2.2.1
    rw [jX7_hourOn_L406, if_neg (fun q => by have := (nI_leI (by omega) (by omega)).mp q; omega), chk_n (by omega) (by omega), rd_n (by omega), nI_1]
    have same : ¬ (p v = nI v ∧ A kB_x v = 29) → ESv n A p (v + 1) = ESv n A p v := fun hne => E_ext fun j => by
      unfold ESv
      rw [decide_eq_true_eq, decide_eq_true_eq]
      refine ⟨fun ⟨h1, h2, h3, h4⟩ => ⟨h1, h2, ?_, h4⟩, fun ⟨h1, h2, h3, h4⟩ => ⟨h1, h2, by omega, h4⟩⟩
      by_cases q : (p j).toNatClampNeg = v
      · have e := hother j h1 h2 q
        rw [q] at h4
        exact absurd ⟨(POK_self hn hP h1 e (by omega)).2.2.2.1, h4⟩ hne
      · omega
    by_cases e : p v = nI v
    · rw [if_pos e, r_ba3 (by omega), bnd_n, hx3]
      by_cases c : A kB_x v = 29
      · obtain ⟨tb2, T2, U2, pp2, hr, hx2⟩ := r_end (p := p) (P := nI v) hW hx
        rw [if_pos c, hr, bnd_n]
        refine ⟨(tb2, T2, U2, pp2), ?_, rfl⟩
        dsimp only
        rw [show ESv n A p (v + 1) = fun j => ESv n A p v j || decide (j < n ∧ p j = nI v) from E_ext fun j => by
          unfold ESv
          rw [Bool.or_eq_true, decide_eq_true_eq, decide_eq_true_eq, decide_eq_true_eq]
          constructor
          · rintro ⟨h1, h2, h3, h4⟩
            by_cases q : (p j).toNatClampNeg = v
            · exact Or.inr ⟨h1, hother j h1 h2 q⟩
            · exact Or.inl ⟨h1, h2, by omega, h4⟩
          · rintro (⟨h1, h2, h3, h4⟩ | ⟨h1, h2⟩)
            · exact ⟨h1, h2, by omega, h4⟩
            · rw [h2, clamp_n (by omega)]
              exact ⟨h1, n_neg (by omega), by omega, c⟩]
        exact hx2
      · rw [if_neg c]
        exact ⟨(tb1, T1, U1, pp1), by dsimp only; rw [same (fun z => c z.2)]; exact hx, rfl⟩
    · rw [if_neg e]
      exact ⟨(tb1, T1, U1, pp1), by dsimp only; rw [same (fun z => e z.1)]; exact hx, rfl⟩
