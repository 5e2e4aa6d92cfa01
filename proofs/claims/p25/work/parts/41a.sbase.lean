/-! the law's own raft against A: its loops count down -/
theorem itN {σ ρ : Type} (L : Nat → Nat → σ → Option ρ) (N : Nat) (I : Nat → σ → Prop) (O : ρ → Prop) (h0 : ∀ s, I N s → ∃ r, L 0 N s = some r ∧ O r)
    (h1 : ∀ m j s, j < N → I j s → (∃ r, L (m + 1) j s = some r ∧ O r) ∨ ∃ s', I (j + 1) s' ∧ L (m + 1) j s = L m (j + 1) s') : ∀ m j s, j + m = N → I j s → ∃ r, L m j s = some r ∧ O r := by
  intro m
  induction m with
  | zero =>
    intro j s hj hI
    obtain rfl : j = N := by omega
    exact h0 s hI
  | succ m ih =>
    intro j s hj hI
    rcases h1 m j s (by omega) hI with h | ⟨s', hI', e⟩
    · exact h
    · rw [e]
      exact ih (j + 1) s' (by omega) hI'
theorem itN0 {σ ρ : Type} {s0 : σ} (L : Nat → Nat → σ → Option ρ) (N : Nat) (I : Nat → σ → Prop) (O : ρ → Prop) (hs : I 0 s0) (h0 : ∀ s, I N s → ∃ r, L 0 N s = some r ∧ O r)
    (h1 : ∀ m j s, j < N → I j s → ∃ s', I (j + 1) s' ∧ L (m + 1) j s = L m (j + 1) s') : ∃ r, L N 0 s0 = some r ∧ O r :=
  itN L N I O h0 (fun m j s hj hI => Or.inr (h1 m j s hj hI)) N 0 s0 (by omega) hs
/-- a loop whose state is a function of its number -/
theorem itNF {σ ρ : Type} {s0 : σ} {r : ρ} (L : Nat → Nat → σ → Option ρ) (F : Nat → σ) (N : Nat) (hs : F 0 = s0) (h0 : L 0 N (F N) = some r) (h1 : ∀ m j, j < N → L (m + 1) j (F j) = L m (j + 1) (F (j + 1))) : L N 0 s0 = some r := by
  obtain ⟨q, h, e⟩ := itN0 (s0 := s0) L N (fun j s => s = F j) (fun q => q = r) hs.symm (fun s h => ⟨r, by rw [h]; exact h0, rfl⟩) (fun m j s hj h => ⟨F (j + 1), rfl, by rw [h]; exact h1 m j hj⟩)
  rw [h, e]
theorem rd0 {f : Nat → Int32} : rd f 0 = f 0 := rd_n (j := 0) (by decide)
theorem rd1 {f : Nat → Int32} : rd f 1 = f 1 := rd_n (j := 1) (by decide)
theorem rd2 {f : Nat → Int32} : rd f 2 = f 2 := rd_n (j := 2) (by decide)
theorem rd3 {f : Nat → Int32} : rd f 3 = f 3 := rd_n (j := 3) (by decide)
theorem rd4 {f : Nat → Int32} : rd f 4 = f 4 := rd_n (j := 4) (by decide)
theorem rd5 {f : Nat → Int32} : rd f 5 = f 5 := rd_n (j := 5) (by decide)
theorem rd6 {f : Nat → Int32} : rd f 6 = f 6 := rd_n (j := 6) (by decide)
theorem rd7 {f : Nat → Int32} : rd f 7 = f 7 := rd_n (j := 7) (by decide)
theorem rd8 {f : Nat → Int32} : rd f 8 = f 8 := rd_n (j := 8) (by decide)
theorem wr0 {f : Nat → Int32} {x : Int32} : wr f 0 x = upd f 0 x := wr_n (j := 0) (by decide)
theorem wr1 {f : Nat → Int32} {x : Int32} : wr f 1 x = upd f 1 x := wr_n (j := 1) (by decide)
theorem wr2 {f : Nat → Int32} {x : Int32} : wr f 2 x = upd f 2 x := wr_n (j := 2) (by decide)
theorem wr3 {f : Nat → Int32} {x : Int32} : wr f 3 x = upd f 3 x := wr_n (j := 3) (by decide)
theorem wr4 {f : Nat → Int32} {x : Int32} : wr f 4 x = upd f 4 x := wr_n (j := 4) (by decide)
theorem wr5 {f : Nat → Int32} {x : Int32} : wr f 5 x = upd f 5 x := wr_n (j := 5) (by decide)
theorem wr6 {f : Nat → Int32} {x : Int32} : wr f 6 x = upd f 6 x := wr_n (j := 6) (by decide)
theorem wr7 {f : Nat → Int32} {x : Int32} : wr f 7 x = upd f 7 x := wr_n (j := 7) (by decide)
theorem wr8 {f : Nat → Int32} {x : Int32} : wr f 8 x = upd f 8 x := wr_n (j := 8) (by decide)
/-- barrels, crew and lashings (m of them, in their order) of the law's own raft are those of A -/
def SM (n k m : Nat) (A : Nat → Nat → Int32) (nR : Nat) (sg κ : Nat → Nat) (bF tF pF : Nat → Nat → Int32) : Prop :=
  (∀ j, j < n → bF j 2 = A kB_lift j ∧ bF j 3 = A kB_leak j ∧ bF j 4 = A kB_water j ∧ bF j 5 = A kB_goods j ∧ bF j 6 = A kB_state j ∧ bF j 7 = A kB_x j ∧ bF j 8 = A kB_y j)
  ∧ (∀ c, c < k → pF c 0 = A kK_seat c ∧ pF c 1 = A kK_state c)
  ∧ QOK m (fun i => tF (sg i) 0) (fun i => tF (sg i) 1) (fun i => tF (sg i) 2) (fun i => tF (sg i) 3) κ (A kM_strength) (A kM_wear)
  ∧ m ≤ 10 ∧ (∀ i, i < m → sg i < nR)
  ∧ (∀ j, j < n → A kB_state j = 0 ∨ A kB_state j = 1 ∨ A kB_state j = 2) ∧ ∀ c, c < k → A kK_state c = 0 ∨ A kK_state c = 1 ∨ A kK_state c = 2
section SMs
variable {n k m nR : Nat} {A : Nat → Nat → Int32} {sg κ : Nat → Nat} {bF tF pF : Nat → Nat → Int32}
/-- a lashing of the law's own raft -/
theorem s_at (h : SM n k m A nR sg κ bF tF pF) (hW : WA n k A) {i : Nat} (hi : i < m) : ∃ a b, a < b ∧ b < n ∧ κ i = 24 * a + b ∧ tF (sg i) 0 = nI a ∧ tF (sg i) 1 = nI b ∧ tF (sg i) 2 = A kM_strength (κ i) ∧ tF (sg i) 3 = A kM_wear (κ i) ∧ 0 < A kM_strength (κ i) ∧ A kB_state a = 0 ∧ A kB_state b = 0 ∧ Tie n (A kM_strength) a b ∧ sg i < nR := by
  obtain ⟨-, -, ⟨-, ⟨e1, -, -⟩, q⟩, -, hs, -⟩ := h
  obtain ⟨hn, -, -, -, hT, -⟩ := hW
  obtain ⟨l, d⟩ := e1 i hi
  have d0 : 0 < A kM_strength (κ i) := of_decide_eq_true d
  obtain ⟨a, b, e, hab, hb, sa, sb, -⟩ := hT (κ i) l (i_pos_ne d0)
  obtain ⟨q1, q2, q3, q4⟩ := q i hi
  refine ⟨a, b, hab, hb, e, ?_, ?_, q3, q4, d0, sa, sb, ⟨by omega, hb, by omega, by rw [pr_of hab, ← e]; exact d0⟩, hs i hi⟩
  · rw [show tF (sg i) 0 = nI (κ i / 24) from q1, e]
    congr 1
    omega
  · rw [show tF (sg i) 1 = nI (κ i % 24) from q2, e]
    congr 1
    omega
theorem s_load (h : SM n k m A nR sg κ bF tF pF) (hW : WA n k A) {b : Nat} (hb : b < n) : jS_load n k bF pF (nI b) = some (ld A b) := by
  obtain ⟨hn, hk, hw, -⟩ := hW
  obtain ⟨-, -, -, h5, -⟩ := h.1 b hb
  obtain ⟨-, -, -, hp⟩ := hw b hb
  unfold jS_load
  rw [chk_n hb (by omega), chkP_n hk, clamp_n (by omega), rd5, h5]
  refine bnd_i (a := ld A b) (itNF (fun g j s => jS_load_L21 (nI b) pF g j s) (fun j => A kB_goods b + 7 * fs (fun c => if A kK_seat c = nI b then 1 else 0) j) k ?_ ?_ (fun g j hj => ?_)) rfl
  · show A kB_goods b + 7 * 0 = _
    rw [Int32.mul_zero, Int32.add_zero]
  · rw [jS_load_L21, ld, hp]
  · rw [jS_load_L21, rd0, (h.2.1 j hj).1, fs]
    by_cases e : A kK_seat j = nI b
    · rw [if_pos e, if_pos e]
      congr 1
      grind
    · rw [if_neg e, if_neg e]
      congr 1
      grind
theorem s_lifts (h : SM n k m A nR sg κ bF tF pF) (hn : n ≤ 24) {b : Nat} (hb : b < n) : jS_lifts n bF (nI b) = some (lf A b) := by
  obtain ⟨h2, -, h4, -⟩ := h.1 b hb
  unfold jS_lifts
  rw [chk_n hb (by omega), chk_n hb (by omega), clamp_n (by omega), rd2, rd4, h2, h4]
  rfl
theorem d203 : ((2 : Int32) = 3) = False := eq_false (by decide)
theorem d200 : ((2 : Int32) = 0) = False := eq_false (by decide)
theorem d201 : ((2 : Int32) = 1) = False := eq_false (by decide)
theorem d103 : ((1 : Int32) = 3) = False := eq_false (by decide)
theorem d100 : ((1 : Int32) = 0) = False := eq_false (by decide)
theorem s_sumLoad (h : SM n k m A nR sg κ bF tF pF) (hW : WA n k A) {is : Nat → Int32} : jS_sum n k bF pF n is 2 = some (fs (fun b => if is b = 0 then 0 else ld A b) n) := by
  have hn := hW.1
  unfold jS_sum
  rw [chkP_n hn]
  refine bnd_i (itNF (fun g j s => jS_sum_L5 2 is n bF k pF g j s) (fs (fun b => if is b = 0 then 0 else ld A b)) n rfl rfl (fun g j hj => ?_)) rfl
  rw [jS_sum_L5, rd_n (by omega), fs]
  by_cases e : is j = 0
  · rw [if_pos e, if_pos e, Int32.add_zero]
  · rw [if_neg e, if_neg e]
    simp only [jn_n, d203, d200, d201, if_false, if_true, s_load h hW hj, bnd_n]
theorem s_sumLift (h : SM n k m A nR sg κ bF tF pF) (hn : n ≤ 24) {is : Nat → Int32} : jS_sum n k bF pF n is 1 = some (fs (fun b => if is b = 0 then 0 else lf A b) n) := by
  unfold jS_sum
  rw [chkP_n hn]
  refine bnd_i (itNF (fun g j s => jS_sum_L5 1 is n bF k pF g j s) (fs (fun b => if is b = 0 then 0 else lf A b)) n rfl rfl (fun g j hj => ?_)) rfl
  rw [jS_sum_L5, rd_n (by omega), fs]
  by_cases e : is j = 0
  · rw [if_pos e, if_pos e, Int32.add_zero]
  · rw [if_neg e, if_neg e]
    simp only [jn_n, d103, d100, if_false, if_true, s_lifts h hn hj, bnd_n]
end SMs
