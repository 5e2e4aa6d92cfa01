/-! what the steps keep -/
theorem WA_ext {n k : Nat} {A A' : Nat → Nat → Int32} (hW : WA n k A) (h1 : A' kB_x = A kB_x) (h2 : A' kB_y = A kB_y) (h3 : A' kB_goods = A kB_goods) (h4 : A' kB_people = A kB_people) (h5 : A' kB_state = A kB_state) (h6 : A' kK_seat = A kK_seat) (h7 : A' kM_strength = A kM_strength) (h8 : A' kM_wear = A kM_wear) : WA n k A' := by
  unfold WA at hW ⊢
  rw [h1, h2, h3, h4, h5, h6, h7, h8]
  exact hW
theorem WA_water {n k : Nat} {A : Nat → Nat → Int32} (hW : WA n k A) : WA n k (stepW n A) := WA_ext hW rfl rfl rfl rfl rfl rfl rfl rfl
