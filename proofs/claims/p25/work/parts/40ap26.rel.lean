/-! what class and reference have in common between two calls -/
def RelB (S : Nat → Nat → Int32) (n k w m r : Nat) (κ : Nat → Nat) : Prop :=
  (S kB_number 0 = nI n ∧ S kM_barrels 0 = nI n ∧ S kK_number 0 = nI k ∧ S kM_crew 0 = nI k ∧ S kW_number 0 = nI w ∧ S kM_waters 0 = nI w ∧ S kQ_number 0 = nI m)
  ∧ (S kW_windDx 0 = S kM_windX 0 ∧ S kW_windDy 0 = S kM_windY 0)
  ∧ (S kR_hour 0 = S kM_numbers 0 ∧ S kX_ropes 0 = nI r ∧ S kM_numbers 1 = nI r ∧ S kR_broken 0 = S kM_numbers 2 ∧ m + r ≤ 10)
  ∧ WA n k S ∧ RM n k S (S kM_fixed) (S kM_table) (S kM_strength) (S kM_wear) (S kM_people) ∧ SOK w (S kW_dx) (S kW_dy) (S kW_wave) (S kW_counting) (S kM_waterTable)
  ∧ PN n S (S kB_piece) ∧ QOK m (S kQ_first) (S kQ_second) (S kQ_strength) (S kQ_wear) κ (S kM_strength) (S kM_wear)
  ∧ (∀ j, j < n → ∃ c d, c < 8 ∧ d < 8 ∧ S kB_column j = nI c ∧ S kB_row j = nI d ∧ S kM_fixed (3 * j + 0) = nI (c + 8 * d))
  ∧ (∀ j, n ≤ j → j < 24 → S kB_water j = 0 ∧ S kB_goods j = 0 ∧ S kB_people j = 0 ∧ S kB_state j = 0)
  ∧ ∀ c, c < k → S kK_state c ≠ 0 → S kK_seat c = -1
def Rel (S : Nat → Nat → Int32) : Prop := ∃ n k w m r κ, RelB S n k w m r κ
/-- the keys that matter -/
def kok (j : Nat) : Bool := decide ((j < 32 ∧ j ≠ 8 ∧ j ≠ 9) ∨ (61 ≤ j ∧ j < 73))
theorem RelB_ext {S S' : Nat → Nat → Int32} {n k w m r : Nat} {κ : Nat → Nat} (h : RelB S n k w m r κ) (e : ∀ j, kok j = true → S' j = S j) : RelB S' n k w m r κ := by
  have e0 : ∀ j, kok j = true → S' j = S j := e
  unfold RelB WA RM PN at h ⊢
  rw [e0 kX_ropes (by decide), e0 kW_dx (by decide), e0 kW_dy (by decide), e0 kW_wave (by decide), e0 kW_counting (by decide), e0 kW_number (by decide), e0 kW_windDx (by decide), e0 kW_windDy (by decide), e0 kR_hour (by decide), e0 kR_broken (by decide), e0 kB_column (by decide), e0 kB_row (by decide), e0 kB_lift (by decide), e0 kB_leak (by decide), e0 kB_water (by decide), e0 kB_goods (by decide), e0 kB_people (by decide), e0 kB_state (by decide), e0 kB_x (by decide), e0 kB_y (by decide), e0 kB_piece (by decide), e0 kB_number (by decide), e0 kK_seat (by decide), e0 kK_state (by decide), e0 kK_number (by decide), e0 kQ_first (by decide), e0 kQ_second (by decide), e0 kQ_strength (by decide), e0 kQ_wear (by decide), e0 kQ_number (by decide), e0 kM_waters (by decide), e0 kM_waterTable (by decide), e0 kM_windX (by decide), e0 kM_windY (by decide), e0 kM_barrels (by decide), e0 kM_fixed (by decide), e0 kM_crew (by decide), e0 kM_table (by decide), e0 kM_strength (by decide), e0 kM_wear (by decide), e0 kM_people (by decide), e0 kM_numbers (by decide)]
  exact h
theorem Rel_ext {S S' : Nat → Nat → Int32} (h : Rel S) (e : ∀ j, kok j = true → S' j = S j) : Rel S' := by
  obtain ⟨n, k, w, m, r, κ, h⟩ := h
  exact ⟨n, k, w, m, r, κ, RelB_ext h e⟩
theorem up_no {S : Nat → Nat → Int32} {j k : Nat} {f : Nat → Int32} (hj : kok j = true) (hk : kok k = false) : up S k f j = S j := by
  unfold up
  rw [if_neg (fun q => by rw [q, hk] at hj; exact absurd hj (by decide))]
theorem Rel_up {S : Nat → Nat → Int32} {k : Nat} {f : Nat → Int32} (hk : kok k = false) (h : Rel S) : Rel (up S k f) := Rel_ext h (fun _ hj => up_no hj hk)
/-- the same contents written back -/
theorem up_same {S : Nat → Nat → Int32} {k : Nat} {f : Nat → Int32} (h : f = S k) : up S k f = S := by
  funext j
  unfold up
  by_cases e : j = k
  · rw [if_pos e, e, h]
  · rw [if_neg e]
theorem up_one {S : Nat → Nat → Int32} {k : Nat} : ∀ j, kok j = true → up S k (fun _ => S k 0) j 0 = S j 0 := fun j _ => by
  unfold up
  by_cases e : j = k
  · rw [if_pos e, e]
  · rw [if_neg e]
/-- writing back the first number of a row does no harm -/
theorem Rel_up0 {S : Nat → Nat → Int32} {k : Nat} (hk : k ∈ [kX_ropes, kW_number, kW_windDx, kW_windDy, kR_hour, kR_broken, kB_number, kK_number, kQ_number, kM_waters, kM_windX, kM_windY, kM_barrels, kM_crew]) (h : Rel S) : Rel (up S k (fun _ => S k 0)) := by
  obtain ⟨n, c, w, m, r, κ, h⟩ := h
  refine ⟨n, c, w, m, r, κ, ?_⟩
  simp only [List.mem_cons, List.not_mem_nil, or_false] at hk
  rcases hk with rfl | rfl | rfl | rfl | rfl | rfl | rfl | rfl | rfl | rfl | rfl | rfl | rfl | rfl <;> exact h
theorem WA_ae {n k : Nat} {A A' : Nat → Nat → Int32} (e : AE n k A A') (hW : WA n k A) : WA n k A' := by
  obtain ⟨hn, hk, h1, h2, h3, h4, h5⟩ := hW
  refine ⟨hn, hk, fun j hj => ?_, fun c hc => ?_, fun q hq h0 => ?_, fun a b hab => ?_, fun q hq h0 => ?_⟩
  · obtain ⟨-, -, -, a4, a5, a6, a7, a8⟩ := e.1 j hj
    obtain ⟨b1, b2, b3, b4⟩ := h1 j hj
    rw [a4, a5, a7, a8]
    refine ⟨b1, b2, b3, b4.trans (fs_congr fun c hc => by rw [(e.2.1 c hc).1])⟩
  · rw [(e.2.1 c hc).1]
    rcases h2 c hc with z | ⟨b, hb, z1, z2⟩
    · exact Or.inl z
    · exact Or.inr ⟨b, hb, z1, by rw [(e.1 b hb).2.2.2.2.2.1]; exact z2⟩
  · rw [e.2.2.1 q hq] at h0 ⊢
    obtain ⟨a, b, c1, c2, c3, c4, c5, c6⟩ := h3 q hq h0
    exact ⟨a, b, c1, c2, c3, by rw [(e.1 a (by omega)).2.2.2.2.2.1]; exact c4, by rw [(e.1 b (by omega)).2.2.2.2.2.1]; exact c5, c6⟩
  · obtain ⟨c1, c2⟩ := h4 a b ((Tie_ext hn e.2.2.1 a b).mp hab)
    have ea := e.1 a hab.1
    have eb := e.1 b hab.2.1
    rw [ea.2.2.2.2.2.2.1, eb.2.2.2.2.2.2.1, ea.2.2.2.2.2.2.2, eb.2.2.2.2.2.2.2]
    exact ⟨c1, c2⟩
  · rw [e.2.2.1 q hq] at h0 ⊢
    rw [e.2.2.2 q hq h0]
    exact h5 q hq h0
theorem RM_ae {n k : Nat} {A A' : Nat → Nat → Int32} {fx tb T U pp : Nat → Int32} (e : AE n k A A') (h : RM n k A fx tb T U pp) : RM n k A' fx tb T U pp :=
  RM_ext h (fun j hj => ⟨(e.1 j hj).1, (e.1 j hj).2.1, (e.1 j hj).2.2.1, (e.1 j hj).2.2.2.1, (e.1 j hj).2.2.2.2.2.1, (e.1 j hj).2.2.2.2.2.2.1, (e.1 j hj).2.2.2.2.2.2.2⟩) e.2.2.1 (fun q hq h0 => e.2.2.2 q hq (by rw [← h.2.1 q hq]; exact h0)) e.2.1
/-- class and reference hold A: then they are alike -/
theorem RelB_of {S : Nat → Nat → Int32} {n k w m r : Nat} {κ : Nat → Nat} {A : Nat → Nat → Int32} (hW : WA n k A) (hR : RM n k A (S kM_fixed) (S kM_table) (S kM_strength) (S kM_wear) (S kM_people))
    (hC : CR n k A (S kB_lift) (S kB_leak) (S kB_water) (S kB_goods) (S kB_people) (S kB_state) (S kB_x) (S kB_y) (S kK_seat) (S kK_state)) (hP : PN n A (S kB_piece)) (hQ : QOK m (S kQ_first) (S kQ_second) (S kQ_strength) (S kQ_wear) κ (A kM_strength) (A kM_wear))
    (h1 : S kB_number 0 = nI n ∧ S kM_barrels 0 = nI n ∧ S kK_number 0 = nI k ∧ S kM_crew 0 = nI k ∧ S kW_number 0 = nI w ∧ S kM_waters 0 = nI w ∧ S kQ_number 0 = nI m)
    (h2 : S kW_windDx 0 = S kM_windX 0 ∧ S kW_windDy 0 = S kM_windY 0)
    (h3 : S kR_hour 0 = S kM_numbers 0 ∧ S kX_ropes 0 = nI r ∧ S kM_numbers 1 = nI r ∧ S kR_broken 0 = S kM_numbers 2 ∧ m + r ≤ 10)
    (h4 : SOK w (S kW_dx) (S kW_dy) (S kW_wave) (S kW_counting) (S kM_waterTable))
    (h5 : ∀ j, j < n → ∃ c d, c < 8 ∧ d < 8 ∧ S kB_column j = nI c ∧ S kB_row j = nI d ∧ S kM_fixed (3 * j + 0) = nI (c + 8 * d))
    (h6 : ∀ c, c < k → A kK_state c ≠ 0 → A kK_seat c = -1) : RelB S n k w m r κ := by
  have e : AE n k A S := ⟨hC.1, hC.2.1, hR.2.1, fun q hq h0 => hR.2.2.1 q hq (by rw [hR.2.1 q hq]; exact h0)⟩
  have hn := hW.1
  refine ⟨h1, h2, h3, WA_ae e hW, RM_ae e hR, h4, PN_ae hn e hP, QOK_ae hQ e.2.2.1 e.2.2.2, h5, hC.2.2, fun c hc hs => ?_⟩
  rw [(e.2.1 c hc).2] at hs
  rw [(e.2.1 c hc).1]
  exact h6 c hc hs
section RB
variable {S : Nat → Nat → Int32} {n k w m r : Nat} {κ : Nat → Nat}
theorem RB_CR (h : RelB S n k w m r κ) : CR n k S (S kB_lift) (S kB_leak) (S kB_water) (S kB_goods) (S kB_people) (S kB_state) (S kB_x) (S kB_y) (S kK_seat) (S kK_state) :=
  ⟨fun _ _ => ⟨rfl, rfl, rfl, rfl, rfl, rfl, rfl, rfl⟩, fun _ _ => ⟨rfl, rfl⟩, h.2.2.2.2.2.2.2.2.2.1⟩
end RB
/-! valid and invalid arguments -/
theorem a_bar {n : Nat} (hn : n ≤ 600) (a : Int32) : (∃ j, j < n ∧ a = nI j ∧ jX0_has (nI n) a = some 1 ∧ jX7_isBarrel (nI n) a = some 1) ∨ (jX0_has (nI n) a = some 0 ∧ jX7_isBarrel (nI n) a = some 0) := by
  unfold jX0_has jX7_isBarrel
  rw [r_isIn]
  rcases pk_ix a (n := n) (by omega) with h | h | ⟨j, hj, rfl⟩
  · refine Or.inr ⟨by rw [if_pos h, chkZ_a], by rw [if_pos h, bnd_n, chkZ_a]⟩
  · by_cases h0 : a < 0
    · exact Or.inr ⟨by rw [if_pos h0, chkZ_a], by rw [if_pos h0, bnd_n, chkZ_a]⟩
    · refine Or.inr ⟨by rw [if_neg h0, if_pos h, chkZ_a], ?_⟩
      obtain ⟨j, hj, rfl⟩ := nI_of h0
      have hnj := (nI_leI (by omega) hj).mp h
      have : nI n - 1 < nI j := by
        cases n with
        | zero => exact Int32.lt_of_lt_of_le (by decide) (n_nonneg hj)
        | succ n => rw [nI_pred]; exact (nI_ltI (by omega) hj).mpr (by omega)
      rw [if_neg h0, if_pos this, bnd_n, chkZ_a]
  · refine Or.inl ⟨j, hj, rfl, ?_, ?_⟩
    · rw [if_neg (n_neg (by omega)), if_neg (fun q => by have := (nI_leI (by omega) (by omega)).mp q; omega), chkZ_b]
    · rw [if_neg (n_neg (by omega)), show nI n - 1 = nI (n - 1) from by rw [l1, pk_sub (by omega)], if_neg (fun q => by have := (nI_ltI (by omega) (by omega)).mp q; omega), bnd_n, chkZ_b]
theorem a_person {n : Nat} (hn : n ≤ 600) (a : Int32) : (∃ j, j < n ∧ a = nI j ∧ jX1_has (nI n) a = some 1 ∧ jX7_isPerson (nI n) a = some 1) ∨ (jX1_has (nI n) a = some 0 ∧ jX7_isPerson (nI n) a = some 0) := a_bar hn a
/-- a question's number -/
theorem a_what {c : Nat} {C1 : Int32} (hc : 0 < c) (hc2 : c < 600) (h1 : C1 = nI (c - 1)) (a : Int32) : (∃ j, j < c ∧ a = nI j ∧ jX6_isBelow a (nI c) = some 1 ∧ jX7_isIn a 0 C1 = some 1) ∨ (jX6_isBelow a (nI c) = some 0 ∧ jX7_isIn a 0 C1 = some 0) := by
  unfold jX6_isBelow
  rw [r_isIn, h1]
  rcases pk_ix a (n := c) (by omega) with h | h | ⟨j, hj, rfl⟩
  · exact Or.inr ⟨by rw [if_pos h, chkZ_a], by rw [if_pos h]⟩
  · by_cases h0 : a < 0
    · exact Or.inr ⟨by rw [if_pos h0, chkZ_a], by rw [if_pos h0]⟩
    · refine Or.inr ⟨by rw [if_neg h0, if_pos h, chkZ_a], ?_⟩
      obtain ⟨j, hj, rfl⟩ := nI_of h0
      have hnj := (nI_leI (by omega) hj).mp h
      rw [if_neg h0, if_pos ((nI_ltI (by omega) hj).mpr (by omega))]
  · refine Or.inl ⟨j, hj, rfl, ?_, ?_⟩
    · rw [if_neg (n_neg (by omega)), if_neg (fun q => by have := (nI_leI (by omega) (by omega)).mp q; omega), chkZ_b]
    · rw [if_neg (n_neg (by omega)), if_neg (fun q => by have := (nI_ltI (by omega) (by omega)).mp q; omega)]
/-- a number from 1 on -/
theorem a_upto {C : Nat} (hC : C < 600) (a : Int32) : (∃ j, 1 ≤ j ∧ j ≤ C ∧ a = nI j ∧ ¬ a < 1 ∧ a ≤ nI C ∧ jX7_isIn a 1 (nI C) = some 1) ∨ ((a < 1 ∨ ¬ a ≤ nI C) ∧ jX7_isIn a 1 (nI C) = some 0) := by
  rw [r_isIn]
  by_cases h : a < 1
  · exact Or.inr ⟨Or.inl h, by rw [if_pos h]⟩
  · by_cases h2 : a ≤ nI C
    · obtain ⟨j, hj, rfl⟩ := nI_of (x := a) (fun z => h (Int32.lt_trans z (by decide)))
      have h3 := (nI_leI hj (by omega)).mp h2
      have h4 : ¬ j < 1 := fun z => h ((nI_ltI (b := 1) hj (by omega)).mpr z)
      exact Or.inl ⟨j, by omega, h3, rfl, h, h2, by rw [if_neg h, if_neg (Int32.not_lt.mpr h2)]⟩
    · exact Or.inr ⟨Or.inr h2, by rw [if_neg h, if_pos (Int32.not_le.mp h2)]⟩
