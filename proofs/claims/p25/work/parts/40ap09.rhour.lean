/-! an hour of the reference, by steps -/
def stepW (n : Nat) (A : Nat → Nat → Int32) : Nat → Nat → Int32 := up A kB_water (fun i => if i < n ∧ A kB_state i = 0 then mmin 100 (A kB_water i + A kB_leak i) else A kB_water i)
def EO (n : Nat) (A : Nat → Nat → Int32) (p : Nat → Int32) : Nat → Bool := fun j => decide (j < n ∧ ¬ p j < 0 ∧ ¬ LD n A p (p j) ≤ LF n A p (p j))
theorem RM_ext {n k : Nat} {A A' : Nat → Nat → Int32} {fx tb T U pp : Nat → Int32} (h : RM n k A fx tb T U pp) (h1 : ∀ j, j < n → A' kB_lift j = A kB_lift j ∧ A' kB_leak j = A kB_leak j ∧ A' kB_water j = A kB_water j ∧ A' kB_goods j = A kB_goods j ∧ A' kB_state j = A kB_state j ∧ A' kB_x j = A kB_x j ∧ A' kB_y j = A kB_y j)
    (h2 : ∀ q, q < 576 → A' kM_strength q = A kM_strength q) (h3 : ∀ q, q < 576 → 0 < T q → A' kM_wear q = A kM_wear q) (h4 : ∀ c, c < k → A' kK_seat c = A kK_seat c ∧ A' kK_state c = A kK_state c) : RM n k A' fx tb T U pp := by
  refine ⟨fun j hj => ?_, fun q hq => (h.2.1 q hq).trans (h2 q hq).symm, fun q hq h0 => (h.2.2.1 q hq h0).trans (h3 q hq h0).symm, fun c hc => ⟨(h.2.2.2.1 c hc).1.trans (h4 c hc).1.symm, (h.2.2.2.1 c hc).2.trans (h4 c hc).2.symm⟩, h.2.2.2.2⟩
  obtain ⟨a1, a2, a3, a4, a5, a6, a7⟩ := h1 j hj
  obtain ⟨b1, b2, b3, b4, b5, b6, b7⟩ := h.1 j hj
  exact ⟨b1.trans a1.symm, b2.trans a2.symm, b3.trans a3.symm, b4.trans a4.symm, b5.trans a5.symm, b6.trans a6.symm, b7.trans a7.symm⟩
theorem r_ba0 {tb : Nat → Int32} {j : Nat} (h : j < 24) : jX7_ba tb (nI j) 0 = some (tb (5 * j + 0)) := r_ba (w := 0) (by omega)
theorem r_set0 {tb : Nat → Int32} {j : Nat} {x : Int32} (h : j < 24) : jX7_set tb (nI j) 0 x = some (upd tb (5 * j + 0) x) := r_set (w := 0) (by omega)
theorem r_fx2 {fx : Nat → Int32} {j : Nat} (h : j < 24) : jX7_fx fx (nI j) 2 = some (fx (3 * j + 2)) := r_fx (w := 2) (by omega)
section RHour
variable {n k w : Nat} {A : Nat → Nat → Int32} {fx tb T U pp p Wt : Nat → Int32}
theorem r_water (hn : n ≤ 24) (h : RM n k A fx tb T U pp) : ∃ tb', jX7_hourOn_L4 (nI n) fx FU tb 0 = some tb' ∧ RM n k (stepW n A) fx tb' T U pp := by
  refine ⟨fun i => if i % 5 = 0 ∧ i / 5 < n ∧ tb (5 * (i / 5) + 2) = 0 then mmin 100 (tb i + fx (3 * (i / 5) + 2)) else tb i, itF0 (fun f s v => jX7_hourOn_L4 (nI n) fx f s v) (fun v i => if i % 5 = 0 ∧ i / 5 < v ∧ tb (5 * (i / 5) + 2) = 0 then mmin 100 (tb i + fx (3 * (i / 5) + 2)) else tb i) n (by omega) (by simp) (fun f => ?_) (fun f v hv => ?_), fun j hj => ?_, h.2.1, h.2.2.1, h.2.2.2⟩
  · rw [jX7_hourOn_L4, if_pos (Int32.le_refl _)]
  · rw [jX7_hourOn_L4, if_neg (fun q => by have := (nI_leI (by omega) (by omega)).mp q; omega), r_floats (by omega), bnd_n, nI_1]
    rw [if_neg (by omega : ¬ ((5 * v + 2) % 5 = 0 ∧ (5 * v + 2) / 5 < v ∧ tb (5 * ((5 * v + 2) / 5) + 2) = 0))]
    by_cases e : tb (5 * v + 2) = 0
    · rw [if_pos e, if_neg one_ne, r_ba0 (by omega), bnd_n, r_fx2 (by omega), bnd_n, r_set0 (by omega), bnd_n]
      rw [if_neg (by omega : ¬ ((5 * v + 0) % 5 = 0 ∧ (5 * v + 0) / 5 < v ∧ tb (5 * ((5 * v + 0) / 5) + 2) = 0))]
      congr 1
      funext i
      unfold upd
      by_cases hi : i = 5 * v + 0
      · subst hi
        rw [if_pos rfl, if_pos ⟨by omega, by omega, by rw [show 5 * ((5 * v + 0) / 5) + 2 = 5 * v + 2 by omega]; exact e⟩, show (5 * v + 0) / 5 = v by omega]
      · rw [if_neg hi]
        dsimp only
        by_cases h5 : i % 5 = 0
        · have : i / 5 ≠ v := by omega
          simp only [p_lts this]
        · rw [if_neg (fun q => h5 q.1), if_neg (fun q => h5 q.1)]
    · rw [if_neg e, if_pos rfl]
      congr 1
      funext i
      by_cases h5 : i / 5 = v
      · rw [if_neg (fun q => e (by rw [← h5]; exact q.2.2)), if_neg (fun q => e (by rw [← h5]; exact q.2.2))]
      · simp only [p_lts h5]
  · obtain ⟨b1, b2, b3, b4, b5, b6, b7⟩ := h.1 j hj
    dsimp only
    refine ⟨b1, b2, ?_, ?_, ?_, ?_, ?_⟩
    · show _ = if j < n ∧ A 19 j = 0 then mmin 100 (A 16 j + A 15 j) else A 16 j
      rw [show (5 * j + 0) / 5 = j by omega, b5, b2, b3, show (5 * j + 0) % 5 = 0 by omega]
      simp only [true_and]
    · rw [if_neg (by omega)]; exact b4
    · rw [if_neg (by omega)]; exact b5
    · rw [if_neg (by omega)]; exact b6
    · rw [if_neg (by omega)]; exact b7
/-- those of the pieces below v -/
def EOv (n : Nat) (A : Nat → Nat → Int32) (p : Nat → Int32) (v : Nat) : Nat → Bool := fun j => decide (j < n ∧ ¬ p j < 0 ∧ (p j).toNatClampNeg < v ∧ ¬ LD n A p (p j) ≤ LF n A p (p j))
theorem r_over {R : Nat → Nat → Prop} (hW : WA n k A) (hP : POK n (A kB_state) R p) (h : RM n k A fx tb T U pp) : ∃ tb' T' U' pp', jX7_hourOn_L56 (nI n) (nI k) fx p FU tb T U pp 0 = some (tb', T', U', pp') ∧ RM n k (endA (EO n A p) 1 A) fx tb' T' U' pp' := by
  have hn := hW.1
  have hk := hW.2.1
  refine (itI0 (s0 := (tb, T, U, pp)) (fun g (x : (Nat → Int32) × (Nat → Int32) × (Nat → Int32) × (Nat → Int32)) v => jX7_hourOn_L56 (nI n) (nI k) fx p g x.1 x.2.1 x.2.2.1 x.2.2.2 v) n
    (fun v x => RM n k (endA (EOv n A p v) 1 A) fx x.1 x.2.1 x.2.2.1 x.2.2.2) (fun x => RM n k (endA (EO n A p) 1 A) fx x.1 x.2.1 x.2.2.1 x.2.2.2) (by omega) ?_ (fun g x hx => ?_) (fun g v x hv hx => ?_)).elim (fun r ⟨hr, h⟩ => ⟨r.1, r.2.1, r.2.2.1, r.2.2.2, hr, h⟩)
  · rw [show EOv n A p 0 = fun _ => false from E_ext fun j => by simp [EOv], endA_none]
    exact h
  · refine ⟨x, by rw [jX7_hourOn_L56, if_pos (Int32.le_refl _)], ?_⟩
    rw [show EO n A p = EOv n A p n from E_ext fun j => by
      unfold EO EOv
      rw [decide_eq_true_eq, decide_eq_true_eq]
      refine ⟨fun ⟨h1, h2, h3⟩ => ⟨h1, h2, ?_, h3⟩, fun ⟨h1, h2, _, h3⟩ => ⟨h1, h2, h3⟩⟩
      by_cases hs : A kB_state j = 0
      · obtain ⟨i, h4, h5, -⟩ := hP.1 j h1 hs
        rw [h5, clamp_n (by omega)]; omega
      · exact absurd (by rw [hP.2.2 j h1 hs]; exact m1_neg) h2]
    exact hx
  · obtain ⟨tb1, T1, U1, pp1⟩ := x
    dsimp only at hx ⊢
    have hother : ∀ j, j < n → ¬ p j < 0 → (p j).toNatClampNeg = v → p j = nI v := fun j hj h1 h2 => by
      by_cases hs : A kB_state j = 0
      · obtain ⟨i, h4, h5, -⟩ := hP.1 j hj hs
        rw [h5, clamp_n (by omega)] at h2
        rw [h5, h2]
      · exact absurd (by rw [hP.2.2 j hj hs]; exact m1_neg) h1
    by_cases e : p v = nI v
    · have hin : ∀ j, j < n → p j = nI v → EOv n A p v j = false := fun j hj q => by
        unfold EOv
        refine decide_eq_false fun z => ?_
        rw [q, clamp_n (by omega)] at z
        omega
      have hW' := WA_end (E := EOv n A p v) (f := 1) hW
      have eL : LD n (endA (EOv n A p v) 1 A) p (nI v) = LD n A p (nI v) := fs_congr fun b hb => by
        by_cases q : p b = nI v
        · rw [if_pos q, if_pos q]
          show (if EOv n A p v b = true ∧ (1 : Int32) = 1 then 0 else A 17 b) + 7 * (if EOv n A p v b = true then 0 else A 18 b) = ld A b
          rw [hin b hb q]; rfl
        · rw [if_neg q, if_neg q]
      have eF : LF n (endA (EOv n A p v) 1 A) p (nI v) = LF n A p (nI v) := rfl
      have s1 := r_sumLoad (p := p) (q := nI v) hx hn hk (fun b hb _ => (hW'.2.2.1 b hb).2.2.2)
      have s2 := r_sumLift (p := p) (q := nI v) hx hn
      rw [eL] at s1
      rw [eF] at s2
      by_cases c : LD n A p (nI v) ≤ LF n A p (nI v)
      · refine ⟨(tb1, T1, U1, pp1), ?_, ?_⟩
        · dsimp only
          rw [show EOv n A p (v + 1) = EOv n A p v from E_ext fun j => by
            unfold EOv
            rw [decide_eq_true_eq, decide_eq_true_eq]
            refine ⟨fun ⟨h1, h2, h3, h4⟩ => ⟨h1, h2, ?_, h4⟩, fun ⟨h1, h2, h3, h4⟩ => ⟨h1, h2, by omega, h4⟩⟩
            by_cases q : (p j).toNatClampNeg = v
            · rw [hother j h1 h2 q] at h4; exact absurd c h4
            · omega]
          exact hx
        · rw [jX7_hourOn_L56, if_neg (fun q => by have := (nI_leI (by omega) (by omega)).mp q; omega), chk_n (by omega) (by omega), rd_n (by omega), if_pos e, s1, bnd_n, s2, bnd_n, if_pos c, nI_1]
      · obtain ⟨tb2, T2, U2, pp2, hr, hx2⟩ := r_end (p := p) (P := nI v) hW hx
        refine ⟨(tb2, T2, U2, pp2), ?_, ?_⟩
        · dsimp only
          rw [show EOv n A p (v + 1) = fun j => EOv n A p v j || decide (j < n ∧ p j = nI v) from E_ext fun j => by
            unfold EOv
            rw [Bool.or_eq_true, decide_eq_true_eq, decide_eq_true_eq, decide_eq_true_eq]
            constructor
            · rintro ⟨h1, h2, h3, h4⟩
              by_cases q : (p j).toNatClampNeg = v
              · exact Or.inr ⟨h1, hother j h1 h2 q⟩
              · exact Or.inl ⟨h1, h2, by omega, h4⟩
            · rintro (⟨h1, h2, h3, h4⟩ | ⟨h1, h2⟩)
              · exact ⟨h1, h2, by omega, h4⟩
              · refine ⟨h1, ?_, ?_, ?_⟩
                · rw [h2]; exact n_neg (by omega)
                · rw [h2, clamp_n (by omega)]; omega
                · rw [h2]; exact c]
          exact hx2
        · rw [jX7_hourOn_L56, if_neg (fun q => by have := (nI_leI (by omega) (by omega)).mp q; omega), chk_n (by omega) (by omega), rd_n (by omega), if_pos e, s1, bnd_n, s2, bnd_n, if_neg c, hr, bnd_n, nI_1]
    · refine ⟨(tb1, T1, U1, pp1), ?_, ?_⟩
      · dsimp only
        rw [show EOv n A p (v + 1) = EOv n A p v from E_ext fun j => by
          unfold EOv
          rw [decide_eq_true_eq, decide_eq_true_eq]
          refine ⟨fun ⟨h1, h2, h3, h4⟩ => ⟨h1, h2, ?_, h4⟩, fun ⟨h1, h2, h3, h4⟩ => ⟨h1, h2, by omega, h4⟩⟩
          by_cases q : (p j).toNatClampNeg = v
          · exact absurd (POK_self hn hP h1 (hother j h1 h2 q) (by omega)).2.2.2.1 e
          · omega]
        exact hx
      · rw [jX7_hourOn_L56, if_neg (fun q => by have := (nI_leI (by omega) (by omega)).mp q; omega), chk_n (by omega) (by omega), rd_n (by omega), if_neg e, nI_1]
end RHour
