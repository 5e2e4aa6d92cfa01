/-! tools for the pure half: indexes as numbers, loops by closed forms or by invariants -/
theorem chk_n {α : Type} {n j : Nat} {k : Option α} (h : j < n) (hn : n < 2 ^ 31) : chk n (nI j) k = k := by
  unfold chk inB
  rw [nI_toInt (by omega : j < 2 ^ 31), if_pos]
  exact decide_eq_true ⟨by omega, by omega⟩
theorem clamp_n {j : Nat} (h : j < 2 ^ 31) : (nI j).toNatClampNeg = j := pk_cl j rfl h
theorem rd_n {f : Nat → Int32} {j : Nat} (h : j < 2 ^ 31) : rd f (nI j) = f j := by unfold rd; rw [clamp_n h]
theorem wr_n {f : Nat → Int32} {j : Nat} {x : Int32} (h : j < 2 ^ 31) : wr f (nI j) x = upd f j x := by unfold wr; rw [clamp_n h]
theorem bnd_n {α β : Type} {a : α} {k : α → Option β} : bnd (some a) k = k a := rfl
theorem chkZ_a {α : Type} {k : Option α} : chkZ 0 k = k := if_pos (Or.inl rfl)
theorem chkZ_b {α : Type} {k : Option α} : chkZ 1 k = k := if_pos (Or.inr rfl)
theorem jn_n {α β : Type} {F : α → Option β} {B : (α → Option β) → Option β} : jn F B = B F := rfl
theorem sel_a {α β γ : Type} {a : α} {f : α → γ} {g : β → γ} : sel (.inl a) f g = f a := rfl
theorem sel_b {α β γ : Type} {b : β} {f : α → γ} {g : β → γ} : sel (.inr b) f g = g b := rfl
theorem chkP_n {α : Type} {P : Prop} [Decidable P] {k : Option α} (h : P) : chkP P k = k := if_pos h
theorem upd_a {f : Nat → Int32} {k : Nat} {x : Int32} : upd f k x k = x := if_pos rfl
theorem upd_b {f : Nat → Int32} {k j : Nat} {x : Int32} (h : j ≠ k) : upd f k x j = f j := if_neg h
theorem upd_s {f : Nat → Int32} {k : Nat} : upd f k (f k) = f := by
  funext j; unfold upd; split <;> simp_all
theorem l0 : (0 : Int32) = nI 0 := rfl
theorem l1 : (1 : Int32) = nI 1 := rfl
theorem l2 : (2 : Int32) = nI 2 := rfl
theorem l8 : (8 : Int32) = nI 8 := rfl
theorem l24 : (24 : Int32) = nI 24 := rfl
theorem l48 : (48 : Int32) = nI 48 := rfl
theorem n_neg {j : Nat} (h : j < 2 ^ 31) : ¬ nI j < 0 := by
  rw [l0, nI_ltI h (by omega)]; omega
theorem n_nonneg {j : Nat} (h : j < 2 ^ 31) : (0 : Int32) ≤ nI j := by
  rw [l0, nI_leI (by omega) h]; omega
theorem m1_neg : (-1 : Int32) < 0 := by decide
theorem n_m1 {j : Nat} (h : j < 2 ^ 31) : nI j ≠ -1 := fun q => n_neg h (q ▸ m1_neg)
/-- a loop whose states are known -/
theorem itF {σ τ : Type} {r : τ} (L : Nat → σ → Int32 → Option τ) (F : Nat → σ) (N : Nat) (h0 : ∀ f, L (f + 1) (F N) (nI N) = some r)
    (h1 : ∀ f j, j < N → L (f + 1) (F j) (nI j) = L f (F (j + 1)) (nI (j + 1))) : ∀ f k, k ≤ N → N < f + k → L f (F k) (nI k) = some r := by
  intro f
  induction f with
  | zero => intro k h h'; omega
  | succ f ih =>
    intro k h h'
    by_cases hk : k = N
    · subst hk; exact h0 f
    · rw [h1 f k (by omega)]; exact ih (k + 1) (by omega) (by omega)
/-- a loop by an invariant -/
theorem itI {σ τ : Type} (L : Nat → σ → Int32 → Option τ) (N : Nat) (I : Nat → σ → Prop) (Q : τ → Prop) (h0 : ∀ f s, I N s → ∃ r, L (f + 1) s (nI N) = some r ∧ Q r)
    (h1 : ∀ f j s, j < N → I j s → ∃ s', I (j + 1) s' ∧ L (f + 1) s (nI j) = L f s' (nI (j + 1))) : ∀ f k s, k ≤ N → N < f + k → I k s → ∃ r, L f s (nI k) = some r ∧ Q r := by
  intro f
  induction f with
  | zero => intro k s h h'; omega
  | succ f ih =>
    intro k s h h' hI
    by_cases hk : k = N
    · subst hk; exact h0 f s hI
    · obtain ⟨s', hs, he⟩ := h1 f k s (by omega) hI
      rw [he]; exact ih (k + 1) s' (by omega) (by omega) hs
/-- a sum of the first n -/
def fs (g : Nat → Int32) : Nat → Int32
  | 0 => 0
  | n + 1 => fs g n + g n
theorem fs_congr {g h : Nat → Int32} {n : Nat} (e : ∀ j, j < n → g j = h j) : fs g n = fs h n := by
  induction n with
  | zero => rfl
  | succ n ih => rw [fs, fs, ih (fun j hj => e j (by omega)), e n (by omega)]
theorem fs_zero {g : Nat → Int32} {n : Nat} (e : ∀ j, j < n → g j = 0) : fs g n = 0 := by
  induction n with
  | zero => rfl
  | succ n ih => rw [fs, ih (fun j hj => e j (by omega)), e n (by omega)]; rfl
theorem fs_add {g h : Nat → Int32} {n : Nat} : fs (fun j => g j + h j) n = fs g n + fs h n := by
  induction n with
  | zero => rfl
  | succ n ih => rw [fs, fs, fs, ih]; simp only [Int32.add_assoc]; congr 1; simp only [← Int32.add_assoc]; congr 1; exact Int32.add_comm _ _
/-- one term of a sum alone is changed -/
theorem fs_upd {g : Nat → Int32} {n k : Nat} {x : Int32} (h : k < n) : fs (upd g k x) n = fs g n - g k + x := by
  induction n with
  | zero => omega
  | succ n ih =>
    by_cases hk : k = n
    · subst hk
      rw [fs, fs, upd_a, fs_congr (fun j hj => upd_b (by omega)), Int32.add_sub_cancel]
    · rw [fs, fs, ih (by omega), upd_b (by omega)]
      simp only [Int32.sub_eq_add_neg, Int32.add_assoc]
      congr 1
      rw [Int32.add_comm (g n), Int32.add_assoc]
theorem itF0 {σ τ : Type} {r : τ} {s0 : σ} (L : Nat → σ → Int32 → Option τ) (F : Nat → σ) (N : Nat) (hN : N < 1000) (hs : F 0 = s0) (h0 : ∀ f, L (f + 1) (F N) (nI N) = some r)
    (h1 : ∀ f j, j < N → L (f + 1) (F j) (nI j) = L f (F (j + 1)) (nI (j + 1))) : L FU s0 0 = some r := hs ▸ itF L F N h0 h1 FU 0 (Nat.zero_le _) (by unfold FU; omega)
theorem itI0 {σ τ : Type} {s0 : σ} (L : Nat → σ → Int32 → Option τ) (N : Nat) (I : Nat → σ → Prop) (Q : τ → Prop) (hN : N < 1000) (hs : I 0 s0) (h0 : ∀ f s, I N s → ∃ r, L (f + 1) s (nI N) = some r ∧ Q r)
    (h1 : ∀ f j s, j < N → I j s → ∃ s', I (j + 1) s' ∧ L (f + 1) s (nI j) = L f s' (nI (j + 1))) : ∃ r, L FU s0 0 = some r ∧ Q r := itI L N I Q h0 h1 FU 0 s0 (Nat.zero_le _) (by unfold FU; omega) hs
theorem bnd_i {α β : Type} {o : Option α} {k : α → Option β} {a : α} {r : Option β} (h : o = some a) (h2 : k a = r) : bnd o k = r := by rw [h]; exact h2
theorem p_lts {i j : Nat} (h : i ≠ j) : (i < j + 1) = (i < j) := propext ⟨fun q => by omega, fun q => by omega⟩
