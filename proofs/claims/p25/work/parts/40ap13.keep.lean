/-! what the steps keep -/
theorem WA_ext {n k : Nat} {A A' : Nat → Nat → Int32} (hW : WA n k A) (h1 : A' kB_x = A kB_x) (h2 : A' kB_y = A kB_y) (h3 : A' kB_goods = A kB_goods) (h4 : A' kB_people = A kB_people) (h5 : A' kB_state = A kB_state) (h6 : A' kK_seat = A kK_seat) (h7 : A' kM_strength = A kM_strength) (h8 : A' kM_wear = A kM_wear) : WA n k A' := by
  unfold WA at hW ⊢
  rw [h1, h2, h3, h4, h5, h6, h7, h8]
  exact hW
theorem WA_water {n k : Nat} {A : Nat → Nat → Int32} (hW : WA n k A) : WA n k (stepW n A) := WA_ext hW rfl rfl rfl rfl rfl rfl rfl rfl
theorem fs_cnt {P : Nat → Prop} [∀ j, Decidable (P j)] : ∀ k, ∃ c, c ≤ k ∧ fs (fun j => if P j then 1 else 0) k = nI c
  | 0 => ⟨0, Nat.le_refl _, rfl⟩
  | k + 1 => by
    obtain ⟨c, hc, e⟩ := fs_cnt (P := P) k
    rw [fs, e]
    by_cases h : P k
    · rw [if_pos h]; exact ⟨c + 1, by omega, nI_1 c⟩
    · rw [if_neg h]; exact ⟨c, by omega, Int32.add_zero _⟩
theorem mabs_sub {a b : Nat} (ha : a < 2 ^ 30) (hb : b < 2 ^ 30) : mabs (nI a - nI b) = nI ((a - b) + (b - a)) := by
  unfold mabs
  rcases Nat.le_total b a with h | h
  · rw [pk_sub h, if_pos (n_nonneg (by omega))]; congr 1; omega
  · by_cases e : a = b
    · subst e
      rw [pk_sub (Nat.le_refl _), if_pos (n_nonneg (by omega))]; congr 1; omega
    · have hlt := pk_sneg hb (by omega : a < b)
      rw [if_neg (Int32.not_le.mpr hlt), show (0 : Int32) - (nI a - nI b) = nI b - nI a by rw [Int32.zero_sub, Int32.neg_sub], pk_sub h]
      congr 1; omega
theorem ld_n {n k : Nat} {A : Nat → Nat → Int32} (hW : WA n k A) {b : Nat} (hb : b < n) : ∃ l, l ≤ 86 ∧ ld A b = nI l := by
  obtain ⟨-, -, ⟨g, hg, e⟩, hp⟩ := hW.2.2.1 b hb
  obtain ⟨c, hc, e2⟩ := fs_cnt (P := fun c => A kK_seat c = nI b) k
  have hk := hW.2.1
  refine ⟨g + 7 * c, by omega, ?_⟩
  unfold ld
  rw [e, hp, e2, show (7 : Int32) = nI 7 from rfl, pk_mul, nI_add]
theorem strn_n {n k w : Nat} {A : Nat → Nat → Int32} {Wt : Nat → Int32} (hW : WA n k A) (hS : WOK w Wt) {a b : Nat} (ha : a < n) (hb : b < n) : ∃ s, s ≤ 63 ∧ strn Wt w A a b = nI s := by
  obtain ⟨x, hx, e1⟩ := ld_n hW ha
  obtain ⟨y, hy, e2⟩ := ld_n hW hb
  obtain ⟨v, hv, e3⟩ := gS_wave (x := xN A a) (y := yN A a) hS
  refine ⟨v + ((x - y) + (y - x)) / 2, by omega, ?_⟩
  unfold strn
  rw [e1, e2, e3, mabs_sub (by omega) (by omega), l2, pk_div (by omega) (by omega) (by omega), nI_add]
