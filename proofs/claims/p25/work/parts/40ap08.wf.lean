/-! what an end leaves -/
section Wf
variable {n k : Nat} {A : Nat → Nat → Int32} {E : Nat → Bool} {f : Int32} {p : Nat → Int32}
theorem endA_seat (hs : ∀ c, c < k → A kK_seat c = -1 ∨ ∃ b, b < n ∧ A kK_seat c = nI b ∧ A kB_state b = 0) (hn : n ≤ 24) {b c : Nat} (hc : c < k) (hb : b < 24) : (endA E f A kK_seat c = nI b) ↔ (A kK_seat c = nI b ∧ E b = false) := by
  show (if onE E (A 24 c) = true then -1 else A 24 c) = nI b ↔ (A 24 c = nI b ∧ E b = false)
  rcases hs c hc with e | ⟨d, hd, e, -⟩
  · replace e : A 24 c = -1 := e
    rw [e, onE_m1]
    simp only [Bool.false_eq_true, if_false]
    exact ⟨fun q => absurd q.symm (n_m1 (by omega)), fun q => absurd q.1.symm (n_m1 (by omega))⟩
  · replace e : A 24 c = nI d := e
    rw [e, onE_n (by omega)]
    by_cases hE : E d = true
    · rw [if_pos hE]
      refine ⟨fun q => absurd q.symm (n_m1 (by omega)), fun q => ?_⟩
      obtain rfl := (nI_eq (by omega) (by omega)).mp q.1
      rw [hE] at q; exact absurd q.2 (by decide)
    · rw [if_neg hE]
      refine ⟨fun q => ⟨q, ?_⟩, fun q => q.1⟩
      obtain rfl := (nI_eq (by omega) (by omega)).mp q
      exact Bool.eq_false_iff.mpr hE
theorem endA_crew (hs : ∀ c, c < k → A kK_seat c = -1 ∨ ∃ b, b < n ∧ A kK_seat c = nI b ∧ A kB_state b = 0) (hn : n ≤ 24) {b : Nat} (hb : b < 24) : fs (fun c => if endA E f A kK_seat c = nI b then 1 else 0) k = if E b = true then 0 else fs (fun c => if A kK_seat c = nI b then 1 else 0) k := by
  by_cases hE : E b = true
  · rw [if_pos hE]
    refine fs_zero fun c hc => if_neg fun q => ?_
    have := ((endA_seat hs hn hc hb).mp q).2
    rw [hE] at this; exact absurd this (by decide)
  · rw [if_neg hE]
    refine fs_congr fun c hc => ?_
    by_cases q : A kK_seat c = nI b
    · rw [if_pos q, if_pos ((endA_seat hs hn hc hb).mpr ⟨q, Bool.eq_false_iff.mpr hE⟩)]
    · rw [if_neg q, if_neg (fun z => q ((endA_seat hs hn hc hb).mp z).1)]
theorem endA_tie {a b : Nat} (ha : a < 24) (hb : b < 24) : Tie n (endA E f A kM_strength) a b ↔ Tie n (A kM_strength) a b ∧ E a = false ∧ E b = false := by
  have h1 : endA E f A kM_strength (pr a b) = if E a = true ∨ E b = true then 0 else A kM_strength (pr a b) := by
    show (if E (pr a b / 24) = true ∨ E (pr a b % 24) = true then 0 else A 69 (pr a b)) = _
    unfold pr
    rcases Nat.le_total a b with q | q
    · rw [Nat.min_eq_left q, Nat.max_eq_right q, show (24 * a + b) / 24 = a by omega, show (24 * a + b) % 24 = b by omega]
    · rw [Nat.min_eq_right q, Nat.max_eq_left q, show (24 * b + a) / 24 = b by omega, show (24 * b + a) % 24 = a by omega]
      simp only [or_comm]
  unfold Tie
  rw [h1]
  constructor
  · rintro ⟨q1, q2, q3, q4⟩
    by_cases hE : E a = true ∨ E b = true
    · rw [if_pos hE] at q4; exact absurd q4 (by decide)
    · rw [if_neg hE] at q4
      simp only [not_or, Bool.not_eq_true] at hE
      exact ⟨⟨q1, q2, q3, q4⟩, hE⟩
  · rintro ⟨⟨q1, q2, q3, q4⟩, hE⟩
    exact ⟨q1, q2, q3, by rw [if_neg (by rw [hE.1, hE.2]; decide)]; exact q4⟩
theorem WA_end (hW : WA n k A) : WA n k (endA E f A) := by
  obtain ⟨hn, hk, hw, hs, hT, hx, hl⟩ := hW
  refine ⟨hn, hk, fun j hj => ?_, fun c hc => ?_, fun q hq h0 => ?_, fun a b hab => ?_, fun q hq h0 => ?_⟩
  · obtain ⟨h1, h2, ⟨g, hg, h3⟩, h4⟩ := hw j hj
    refine ⟨h1, h2, ?_, ?_⟩
    · show ∃ g, g ≤ 30 ∧ (if E j = true ∧ f = 1 then 0 else A 17 j) = nI g
      by_cases q : E j = true ∧ f = 1
      · rw [if_pos q]; exact ⟨0, by omega, rfl⟩
      · rw [if_neg q]; exact ⟨g, hg, h3⟩
    · rw [endA_crew hs hn (by omega), ← h4]; rfl
  · by_cases e : ∃ b, b < n ∧ endA E f A kK_seat c = nI b
    · obtain ⟨b, hb, e⟩ := e
      obtain ⟨e1, e2⟩ := (endA_seat hs hn hc (by omega)).mp e
      refine Or.inr ⟨b, hb, e, ?_⟩
      rcases hs c hc with z | ⟨d, hd, z, z2⟩
      · rw [z] at e1; exact absurd e1.symm (n_m1 (by omega))
      · obtain rfl := (nI_eq (by omega) (by omega)).mp (z.symm.trans e1)
        show (if E d = true then f else A 19 d) = 0
        rw [if_neg (by rw [e2]; decide)]; exact z2
    · refine Or.inl ?_
      show (if onE E (A 24 c) = true then -1 else A 24 c) = -1
      split
      · rfl
      · rename_i q
        rcases hs c hc with z | ⟨d, hd, z, z2⟩
        · exact z
        · refine absurd ⟨d, hd, ?_⟩ e
          show (if onE E (A 24 c) = true then -1 else A 24 c) = nI d
          rw [if_neg q]; exact z
  · have e : endA E f A kM_strength q = if E (q / 24) = true ∨ E (q % 24) = true then 0 else A 69 q := rfl
    rw [e] at h0 ⊢
    by_cases hE : E (q / 24) = true ∨ E (q % 24) = true
    · rw [if_pos hE] at h0; exact absurd rfl h0
    · rw [if_neg hE] at h0 ⊢
      obtain ⟨a, b, h1, h2, h3, h4, h5, h6⟩ := hT q hq h0
      simp only [not_or, Bool.not_eq_true] at hE
      rw [show q / 24 = a by omega, show q % 24 = b by omega] at hE
      refine ⟨a, b, h1, h2, h3, ?_, ?_, h6⟩
      · show (if E a = true then f else A 19 a) = 0
        rw [if_neg (by rw [hE.1]; decide)]; exact h4
      · show (if E b = true then f else A 19 b) = 0
        rw [if_neg (by rw [hE.2]; decide)]; exact h5
  · have h1 := hab.1
    have h2 := hab.2.1
    exact hx a b ((endA_tie (by omega) (by omega)).mp hab).1
  · have e : endA E f A kM_strength q = if E (q / 24) = true ∨ E (q % 24) = true then 0 else A 69 q := rfl
    rw [e] at h0 ⊢
    by_cases hE : E (q / 24) = true ∨ E (q % 24) = true
    · rw [if_pos hE] at h0; exact absurd h0 (by decide)
    · rw [if_neg hE] at h0 ⊢
      exact hl q hq h0
theorem POK_end (hn : n ≤ 24) (hp : POK n (A kB_state) (Tie n (A kM_strength)) p) (hE : ∀ a b, Tie n (A kM_strength) a b → E a = E b) (hf : f ≠ 0) : POK n (endA E f A kB_state) (Tie n (endA E f A kM_strength)) (fun j => if E j = true then -1 else p j) := by
  have st : ∀ j, endA E f A kB_state j = if E j = true then f else A kB_state j := fun j => rfl
  refine ⟨fun j hj h0 => ?_, fun a b hab => ?_, fun j hj h0 => ?_⟩
  · rw [st] at h0
    by_cases e : E j = true
    · rw [if_pos e] at h0; exact absurd h0 hf
    · rw [if_neg e] at h0
      obtain ⟨i, h1, h2, h3⟩ := hp.1 j hj h0
      refine ⟨i, h1, by dsimp only; rw [if_neg e, h2], ?_⟩
      exact h3 (fun z => E z = false → conn (Tie n (endA E f A kM_strength)) i z) (fun _ => conn_refl) (fun x y hxy ih hy => by
        have hx : E x = false := (hE x y hxy).trans hy
        have := hxy.1
        have := hxy.2.1
        exact conn_step (ih hx) ((endA_tie (by omega) (by omega)).mpr ⟨hxy, hx, hy⟩)) (Bool.eq_false_iff.mpr e)
  · have h1 := hab.1
    have h2 := hab.2.1
    obtain ⟨h3, h4, h5⟩ := (endA_tie (by omega) (by omega)).mp hab
    dsimp only
    rw [h4, h5]
    exact hp.2.1 a b h3
  · rw [st] at h0
    dsimp only
    by_cases e : E j = true
    · rw [if_pos e]
    · rw [if_neg e] at h0 ⊢
      exact hp.2.2 j hj h0
end Wf
