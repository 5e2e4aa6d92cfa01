/-! the lashings wear or break -/
def brk (Wt : Nat → Int32) (w : Nat) (A : Nat → Nat → Int32) (q : Nat) : Bool := decide (0 < A kM_strength q ∧ ¬ strn Wt w A (q / 24) (q % 24) ≤ A kM_strength q - A kM_wear q)
def wearA (Wt : Nat → Int32) (w : Nat) (A : Nat → Nat → Int32) : Nat → Nat → Int32 :=
  up (up A kM_strength (fun q => if brk Wt w A q = true then 0 else A kM_strength q)) kM_wear (fun q => A kM_wear q + strn Wt w A (q / 24) (q % 24) / 4)
/-- all below Q have had their turn -/
def WQ (Wt : Nat → Int32) (w : Nat) (A : Nat → Nat → Int32) (Q : Nat) (T U : Nat → Int32) (c : Int32) : Prop :=
  (∀ q, q < 576 → T q = if q < Q then wearA Wt w A kM_strength q else A kM_strength q) ∧ (∀ q, q < 576 → 0 < T q → U q = if q < Q then wearA Wt w A kM_wear q else A kM_wear q) ∧ c = fs (fun q => if brk Wt w A q = true then 1 else 0) Q
theorem brk_no {Wt : Nat → Int32} {w : Nat} {A : Nat → Nat → Int32} {q : Nat} (h : ¬ 0 < A kM_strength q) : brk Wt w A q = false := decide_eq_false fun z => h z.1
theorem wearA_T {Wt : Nat → Int32} {w : Nat} {A : Nat → Nat → Int32} {q : Nat} : wearA Wt w A kM_strength q = if brk Wt w A q = true then 0 else A kM_strength q := rfl
theorem wearA_U {Wt : Nat → Int32} {w : Nat} {A : Nat → Nat → Int32} {q : Nat} : wearA Wt w A kM_wear q = A kM_wear q + strn Wt w A (q / 24) (q % 24) / 4 := rfl
theorem WQ_skip {Wt : Nat → Int32} {w : Nat} {A : Nat → Nat → Int32} {T U : Nat → Int32} {c : Int32} {Q Q' : Nat} (h : WQ Wt w A Q T U c) (hQ : Q ≤ Q') (hz : ∀ q, Q ≤ q → q < Q' → A kM_strength q = 0) : WQ Wt w A Q' T U c := by
  obtain ⟨h1, h2, h3⟩ := h
  have nz : ∀ q, Q ≤ q → q < Q' → brk Wt w A q = false := fun q a b => brk_no (by rw [hz q a b]; decide)
  refine ⟨fun q hq => ?_, fun q hq h0 => ?_, ?_⟩
  · rw [h1 q hq]
    by_cases e : q < Q
    · rw [if_pos e, if_pos (by omega)]
    · rw [if_neg e]
      by_cases e2 : q < Q'
      · rw [if_pos e2, wearA_T, nz q (by omega) e2]; rfl
      · rw [if_neg e2]
  · rw [h2 q hq h0]
    by_cases e : q < Q
    · rw [if_pos e, if_pos (by omega)]
    · rw [if_neg e]
      by_cases e2 : q < Q'
      · rw [h1 q hq, if_neg e, hz q (by omega) e2] at h0
        exact absurd h0 (by decide)
      · rw [if_neg e2]
  · rw [h3]
    obtain ⟨d, rfl⟩ : ∃ d, Q' = Q + d := ⟨Q' - Q, by omega⟩
    clear hQ hz h1 h2 h3
    induction d with
    | zero => rfl
    | succ d ih =>
      rw [← Nat.add_assoc, fs, ih (fun q a b => nz q a (by omega)), nz (Q + d) (by omega) (by omega)]
      exact (Int32.add_zero _).symm
section RWear
variable {n k w : Nat} {A : Nat → Nat → Int32} {fx tb T0 U0 pp Wt : Nat → Int32}
theorem r_wear115 (hW : WA n k A) (hS : WOK w Wt) (h : RM n k A fx tb T0 U0 pp) {a : Nat} (ha : a < n) {T U : Nat → Int32} {c : Int32} (hq : WQ Wt w A (24 * a + (a + 1)) T U c) :
    ∃ q, jX7_hourOn_L115 (nI w) (nI n) (nI k) Wt tb pp (nI a) FU T U c (nI (a + 1)) = some q ∧ WQ Wt w A (24 * a + n) q.1 q.2.1 q.2.2 := by
  have hn := hW.1
  refine itI (fun g (x : (Nat → Int32) × (Nat → Int32) × Int32) v => jX7_hourOn_L115 (nI w) (nI n) (nI k) Wt tb pp (nI a) g x.1 x.2.1 x.2.2 v) n (fun b x => a < b ∧ WQ Wt w A (24 * a + b) x.1 x.2.1 x.2.2) (fun x => WQ Wt w A (24 * a + n) x.1 x.2.1 x.2.2) (fun g x hx => ⟨x, by rw [jX7_hourOn_L115, if_pos (Int32.le_refl _)], hx.2⟩) (fun g b x hb hx => ?_) FU (a + 1) (T, U, c) (by omega) (by unfold FU; omega) ⟨by omega, hq⟩
  obtain ⟨T1, U1, c1⟩ := x
  obtain ⟨hab, h1, h2, h3⟩ := hx
  dsimp only at h1 h2 h3 ⊢
  have hk : 24 * a + b < 576 := by omega
  have hpr : pr a b = 24 * a + b := pr_of hab
  have eT := h1 (24 * a + b) hk
  rw [if_neg (by omega)] at eT
  have d1 : (24 * a + b) / 24 = a := by omega
  have d2 : (24 * a + b) % 24 = b := by omega
  rw [jX7_hourOn_L115, if_neg (fun q => by have := (nI_leI (by omega) (by omega)).mp q; omega), r_tied (by omega) (by omega), bnd_n, hpr, nI_1]
  by_cases ht : 0 < T1 (24 * a + b)
  · have eU := h2 (24 * a + b) hk ht
    rw [if_neg (by omega)] at eU
    rw [if_pos ht, if_neg one_ne, r_stress h hW hS ha hb, bnd_n, r_pair (by omega) (by omega), hpr, bnd_n, chk_n hk (by omega), bnd_n, chk_n hk (by omega), rd_n (by omega), rd_n (by omega), bnd_n, chk_n hk (by omega), chk_n hk (by omega)]
    by_cases hb2 : strn Wt w A a b ≤ T1 (24 * a + b) - U1 (24 * a + b)
    · have nb : brk Wt w A (24 * a + b) = false := decide_eq_false fun z => z.2 (by rw [d1, d2, ← eT, ← eU]; exact hb2)
      refine ⟨(T1, upd U1 (24 * a + b) (U1 (24 * a + b) + strn Wt w A a b / 4), c1), ⟨by omega, fun q hq => ?_, fun q hq h0 => ?_, ?_⟩, ?_⟩
      · dsimp only
        rw [h1 q hq]
        by_cases e : q = 24 * a + b
        · subst e
          rw [if_neg (by omega), if_pos (by omega), wearA_T, nb]; rfl
        · by_cases e2 : q < 24 * a + b
          · rw [if_pos e2, if_pos (by omega)]
          · rw [if_neg e2, if_neg (by omega)]
      · dsimp only at h0 ⊢
        by_cases e : q = 24 * a + b
        · subst e
          rw [upd_a, if_pos (by omega), wearA_U, d1, d2, eU]
        · rw [upd_b e, h2 q hq h0]
          by_cases e2 : q < 24 * a + b
          · rw [if_pos e2, if_pos (by omega)]
          · rw [if_neg e2, if_neg (by omega)]
      · show c1 = fs _ (24 * a + b + 1)
        rw [fs, nb, h3]
        exact (Int32.add_zero _).symm
      · rw [if_pos hb2, rd_n (by omega), wr_n (by omega)]
    · have nb : brk Wt w A (24 * a + b) = true := decide_eq_true ⟨eT ▸ ht, fun z => hb2 (by rw [eT, eU]; rw [d1, d2] at z; exact z)⟩
      refine ⟨(upd T1 (24 * a + b) 0, upd U1 (24 * a + b) 0, c1 + 1), ⟨by omega, fun q hq => ?_, fun q hq h0 => ?_, ?_⟩, ?_⟩
      · dsimp only
        by_cases e : q = 24 * a + b
        · subst e
          rw [upd_a, if_pos (by omega), wearA_T, nb]; rfl
        · rw [upd_b e, h1 q hq]
          by_cases e2 : q < 24 * a + b
          · rw [if_pos e2, if_pos (by omega)]
          · rw [if_neg e2, if_neg (by omega)]
      · dsimp only at h0 ⊢
        by_cases e : q = 24 * a + b
        · subst e
          rw [upd_a] at h0; exact absurd h0 (by decide)
        · rw [upd_b e] at h0 ⊢
          rw [h2 q hq h0]
          by_cases e2 : q < 24 * a + b
          · rw [if_pos e2, if_pos (by omega)]
          · rw [if_neg e2, if_neg (by omega)]
      · show c1 + 1 = fs _ (24 * a + b + 1)
        rw [fs, nb, h3]; rfl
      · rw [if_neg hb2, r_untie (by omega) (by omega), bnd_n, hpr]
  · rw [if_neg ht, if_pos rfl]
    refine ⟨(T1, U1, c1), ⟨by omega, WQ_skip ⟨h1, h2, h3⟩ (by omega) (fun q hq1 hq2 => ?_)⟩, rfl⟩
    obtain rfl : q = 24 * a + b := by omega
    by_cases z : A kM_strength (24 * a + b) = 0
    · exact z
    · obtain ⟨_, _, _, _, _, _, _, h6⟩ := hW.2.2.2.2.1 _ hk z
      rw [eT] at ht
      exact absurd h6 ht
theorem r_wear (hW : WA n k A) (hS : WOK w Wt) (h : RM n k A fx tb T0 U0 pp) : ∃ T' U', jX7_hourOn_L103 (nI w) (nI n) (nI k) Wt tb pp FU T0 U0 0 0 = some (T', U', fs (fun q => if brk Wt w A q = true then 1 else 0) 576) ∧ RM n k (wearA Wt w A) fx tb T' U' pp := by
  have hn := hW.1
  have hz : ∀ a q, q < 576 → 24 * a + n ≤ q → q < 24 * (a + 1) + (a + 2) → A kM_strength q = 0 := fun a q hq h1 h2 => by
    by_cases z : A kM_strength q = 0
    · exact z
    · obtain ⟨c, d, h3, h4, h5, -⟩ := hW.2.2.2.2.1 q hq z
      omega
  refine (itI0 (s0 := (T0, U0, (0 : Int32))) (fun g (x : (Nat → Int32) × (Nat → Int32) × Int32) v => jX7_hourOn_L103 (nI w) (nI n) (nI k) Wt tb pp g x.1 x.2.1 x.2.2 v) n (fun a x => WQ Wt w A (min 576 (24 * a + (a + 1))) x.1 x.2.1 x.2.2) (fun x => WQ Wt w A (min 576 (24 * n + (n + 1))) x.1 x.2.1 x.2.2) (by omega) ?_ (fun g x hx => ⟨x, by rw [jX7_hourOn_L103, if_pos (Int32.le_refl _)], hx⟩) (fun g a x ha hx => ?_)).elim (fun r ⟨hr, hx⟩ => ?_)
  · have h0 : WQ Wt w A 0 T0 U0 0 := ⟨fun q hq => by rw [if_neg (by omega)]; exact h.2.1 q hq, fun q hq h0 => by rw [if_neg (by omega)]; exact h.2.2.1 q hq h0, rfl⟩
    refine WQ_skip h0 (by omega) (fun q h1 h2 => ?_)
    by_cases z : A kM_strength q = 0
    · exact z
    · obtain ⟨c, d, h3, h4, h5, -⟩ := hW.2.2.2.2.1 q (by omega) z
      omega
  · obtain ⟨T1, U1, c1⟩ := x
    dsimp only at hx ⊢
    rw [Nat.min_eq_right (by omega)] at hx
    obtain ⟨q, hq, hx2⟩ := r_wear115 hW hS h ha hx
    refine ⟨q, WQ_skip hx2 (by omega) (fun q h1 h2 => hz a q (by omega) h1 (by omega)), ?_⟩
    rw [jX7_hourOn_L103, if_neg (fun q => by have := (nI_leI (by omega) (by omega)).mp q; omega), nI_1, hq, bnd_n]
  · have hx := WQ_skip hx (by omega : _ ≤ 576) (fun q h1 h2 => by
      by_cases z : A kM_strength q = 0
      · exact z
      · obtain ⟨c, d, h3, h4, h5, -⟩ := hW.2.2.2.2.1 q (by omega) z
        omega)
    obtain ⟨T', U', c'⟩ := r
    obtain ⟨h1, h2, h3⟩ := hx
    dsimp only at h1 h2 h3
    refine ⟨T', U', by rw [← h3]; exact hr, h.1, fun q hq => ?_, fun q hq h0 => ?_, h.2.2.2⟩
    · rw [h1 q hq, if_pos hq]
    · rw [h2 q hq h0, if_pos hq]
end RWear
