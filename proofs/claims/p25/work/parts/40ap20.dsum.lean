/-! sums of numbers and of whole numbers; ties of one barrel -/
theorem ns_fo {g : Nat → Nat} {n : Nat} : ns g n = fo (fun k a => a + g k) n 0 := by
  induction n with
  | zero => rfl
  | succ n ih => rw [ns, fo, ih]
theorem enu_ns {κ : Nat → Nat} {P : Nat → Bool} {g : Nat → Nat} {N m : Nat} (h : enu κ m P N) : ns (fun i => g (κ i)) m = ns (fun k => if P k = true then g k else 0) N := by
  rw [ns_fo, ns_fo, enu_fo (g := fun k a => a + g k) h]
  refine fo_congr fun j s hj => ?_
  split
  · rfl
  · rfl
theorem ns_zero {g : Nat → Nat} {n : Nat} (e : ∀ j, j < n → g j = 0) : ns g n = 0 := by
  induction n with
  | zero => rfl
  | succ n ih => rw [ns, ih (fun j hj => e j (by omega)), e n (by omega)]
theorem ns_add {g h : Nat → Nat} {n : Nat} : ns (fun j => g j + h j) n = ns g n + ns h n := by
  induction n with
  | zero => rfl
  | succ n ih => rw [ns, ns, ns, ih]; omega
theorem ns_swap {g : Nat → Nat → Nat} {n m : Nat} : ns (fun x => ns (fun y => g x y) m) n = ns (fun y => ns (fun x => g x y) n) m := by
  induction n with
  | zero => exact (ns_zero fun j _ => rfl).symm
  | succ n ih => rw [ns, ih, ← ns_add]; rfl
/-- one row of a double sum -/
theorem ns_pick {g : Nat → Nat} {n b : Nat} (hb : b < n) : ns (fun x => if x = b then g x else 0) n = g b := by
  induction n with
  | zero => omega
  | succ n ih =>
    rw [ns]
    by_cases e : b = n
    · subst e
      rw [if_pos rfl, ns_zero (fun j hj => if_neg (by omega)), Nat.zero_add]
    · rw [ih (by omega), if_neg (by omega), Nat.add_zero]
theorem ns_split {g : Nat → Nat} (N : Nat) : ∀ {m : Nat}, ns g (N * m) = ns (fun x => ns (fun y => g (N * x + y)) N) m
  | 0 => rfl
  | m + 1 => by
    rw [ns, ← ns_split N]
    have : ∀ d, ns g (N * m + d) = ns g (N * m) + ns (fun y => g (N * m + y)) d := fun d => by
      induction d with
      | zero => rfl
      | succ d ih => rw [← Nat.add_assoc, ns, ih, ns]; omega
    rw [Nat.mul_succ]; exact this N
theorem fs_ns {P : Nat → Prop} [∀ j, Decidable (P j)] {n : Nat} : fs (fun j => if P j then 1 else 0) n = nI (ns (fun j => if P j then 1 else 0) n) := by
  induction n with
  | zero => rfl
  | succ n ih =>
    rw [fs, ns, ih]
    by_cases h : P n
    · rw [if_pos h, if_pos h, nI_1]
    · rw [if_neg h, if_neg h, Int32.add_zero, Nat.add_zero]
theorem ns_le1 {P : Nat → Prop} [∀ j, Decidable (P j)] {n : Nat} : ns (fun j => if P j then 1 else 0) n ≤ n := by
  induction n with
  | zero => exact Nat.le_refl _
  | succ n ih => rw [ns]; split <;> omega
/-- how many ties a barrel has -/
def tbb (n : Nat) (T : Nat → Int32) (x y : Nat) : Bool := decide (x < n ∧ y < n ∧ x ≠ y ∧ 0 < T (pr x y))
theorem tb_iff {n : Nat} {T : Nat → Int32} {x y : Nat} : tbb n T x y = true ↔ Tie n T x y := decide_eq_true_iff
theorem tb_symm {n : Nat} {T : Nat → Int32} {x y : Nat} : tbb n T x y = tbb n T y x := Bool.eq_iff_iff.mpr ⟨fun h => tb_iff.mpr (Tie_symm _ _ (tb_iff.mp h)), fun h => tb_iff.mpr (Tie_symm _ _ (tb_iff.mp h))⟩
def deg (n : Nat) (T : Nat → Int32) (b : Nat) : Nat := ns (fun y => if tbb n T b y = true then 1 else 0) 24
theorem deg_eq {n m : Nat} {st T : Nat → Int32} {κ : Nat → Nat} (hn : n ≤ 24) (he : enu κ m (fun k => decide (0 < T k)) 576) (hT : TOK n st T) {b : Nat} (hb : b < n) : ns (fun i => if κ i / 24 = b ∨ κ i % 24 = b then 1 else 0) m = deg n T b := by
  rw [enu_ns (g := fun q => if q / 24 = b ∨ q % 24 = b then 1 else 0) he, show (576 : Nat) = 24 * 24 from rfl, ns_split 24]
  have hTq : ∀ q, q < 576 → 0 < T q → q / 24 < q % 24 ∧ q % 24 < n := fun q hq h0 => by
    obtain ⟨c, d, h1, h2, h3, -⟩ := hT q hq (i_pos_ne h0)
    omega
  have e1 : ∀ x, x < 24 → ns (fun y => if decide (0 < T (24 * x + y)) = true then (if (24 * x + y) / 24 = b ∨ (24 * x + y) % 24 = b then 1 else 0) else 0) 24 = ns (fun y => (if x = b then (if 0 < T (24 * b + y) then 1 else 0) else 0) + (if y = b then (if 0 < T (24 * x + b) then 1 else 0) else 0)) 24 := fun x hx => ns_congr fun y hy => by
    simp only [decide_eq_true_eq]
    rw [show (24 * x + y) / 24 = x by omega, show (24 * x + y) % 24 = y by omega]
    by_cases h0 : 0 < T (24 * x + y)
    · have := hTq _ (by omega) h0
      rw [if_pos h0]
      by_cases h1 : x = b
      · subst h1
        rw [if_pos (Or.inl rfl), if_pos rfl, if_pos h0, if_neg (by omega)]
      · by_cases h2 : y = b
        · subst h2
          rw [if_pos (Or.inr rfl), if_neg h1, if_pos rfl, if_pos h0]
        · rw [if_neg (by omega), if_neg h1, if_neg h2]
    · rw [if_neg h0]
      by_cases h1 : x = b
      · subst h1
        rw [if_pos rfl, if_neg h0]
        by_cases h2 : y = x
        · subst h2; rw [if_pos rfl, if_neg h0]
        · rw [if_neg h2]
      · rw [if_neg h1]
        by_cases h2 : y = b
        · subst h2; rw [if_pos rfl, if_neg h0]
        · rw [if_neg h2]
  rw [ns_congr e1]
  have e2 : ∀ x, x < 24 → ns (fun y => (if x = b then (if 0 < T (24 * b + y) then 1 else 0) else 0) + (if y = b then (if 0 < T (24 * x + b) then 1 else 0) else 0)) 24 = (if x = b then ns (fun y => if 0 < T (24 * b + y) then 1 else 0) 24 else 0) + (if 0 < T (24 * x + b) then 1 else 0) := fun x hx => by
    rw [ns_add, ns_pick (g := fun _ => if 0 < T (24 * x + b) then 1 else 0) (by omega)]
    by_cases h1 : x = b
    · simp only [h1, if_true]
    · simp only [h1, if_false]
      rw [ns_zero (fun j _ => rfl)]
  rw [ns_congr e2, ns_add, ns_pick (g := fun _ => ns (fun y => if 0 < T (24 * b + y) then 1 else 0) 24) (by omega), ← ns_add]
  unfold deg
  refine ns_congr fun y hy => ?_
  by_cases h0 : tbb n T b y = true
  · obtain ⟨h1, h2, h3, h4⟩ := tb_iff.mp h0
    rw [if_pos h0]
    rcases Nat.lt_or_ge b y with q | q
    · rw [pr_of q] at h4
      rw [if_pos h4, if_neg (fun z => by have := hTq _ (by omega) z; omega)]
    · rw [pr_comm, pr_of (by omega : y < b)] at h4
      rw [if_pos h4, if_neg (fun z => by have := hTq _ (by omega) z; omega)]
  · rw [if_neg h0, if_neg (fun z => h0 (tb_iff.mpr ?_)), if_neg (fun z => h0 (tb_iff.mpr ?_))]
    · have := hTq _ (by omega) z
      exact ⟨hb, by omega, by omega, by rw [pr_comm, pr_of (by omega)]; exact z⟩
    · have := hTq _ (by omega) z
      exact ⟨hb, by omega, by omega, by rw [pr_of (by omega)]; exact z⟩
theorem deg_le {n m : Nat} {st T : Nat → Int32} {κ : Nat → Nat} (hn : n ≤ 24) (he : enu κ m (fun k => decide (0 < T k)) 576) (hT : TOK n st T) {b : Nat} (hb : b < n) : deg n T b ≤ m := by
  rw [← deg_eq hn he hT hb]; exact ns_le1
/-! whole numbers -/
def zs (g : Nat → Int) : Nat → Int
  | 0 => 0
  | n + 1 => zs g n + g n
theorem zs_congr {g h : Nat → Int} {n : Nat} (e : ∀ j, j < n → g j = h j) : zs g n = zs h n := by
  induction n with
  | zero => rfl
  | succ n ih => rw [zs, zs, ih (fun j hj => e j (by omega)), e n (by omega)]
theorem zs_le {g h : Nat → Int} {n : Nat} (e : ∀ j, j < n → g j ≤ h j) : zs g n ≤ zs h n := by
  induction n with
  | zero => exact Int.le_refl _
  | succ n ih => rw [zs, zs]; have := ih (fun j hj => e j (by omega)); have := e n (by omega); omega
theorem zs_zero {g : Nat → Int} {n : Nat} (e : ∀ j, j < n → g j = 0) : zs g n = 0 := by
  induction n with
  | zero => rfl
  | succ n ih => rw [zs, ih (fun j hj => e j (by omega)), e n (by omega)]; rfl
theorem zs_add {g h : Nat → Int} {n : Nat} : zs (fun j => g j + h j) n = zs g n + zs h n := by
  induction n with
  | zero => rfl
  | succ n ih => rw [zs, zs, zs, ih]; omega
theorem zs_neg {g : Nat → Int} {n : Nat} : zs (fun j => - g j) n = - zs g n := by
  induction n with
  | zero => rfl
  | succ n ih => rw [zs, zs, ih]; omega
theorem zs_swap {g : Nat → Nat → Int} {n m : Nat} : zs (fun x => zs (fun y => g x y) m) n = zs (fun y => zs (fun x => g x y) n) m := by
  induction n with
  | zero => exact (zs_zero fun j _ => rfl).symm
  | succ n ih => rw [zs, ih, ← zs_add]; rfl
theorem zs_pick {g : Nat → Int} {n b : Nat} (hb : b < n) : zs (fun x => if x = b then g x else 0) n = g b := by
  induction n with
  | zero => omega
  | succ n ih =>
    rw [zs]
    by_cases e : b = n
    · subst e
      rw [if_pos rfl, zs_zero (fun j hj => if_neg (by omega)), Int.zero_add]
    · rw [ih (by omega), if_neg (by omega), Int.add_zero]
theorem zs_nn {g : Nat → Int} {n : Nat} (e : ∀ j, j < n → 0 ≤ g j) : 0 ≤ zs g n := by
  induction n with
  | zero => exact Int.le_refl _
  | succ n ih => rw [zs]; have := ih (fun j hj => e j (by omega)); have := e n (by omega); omega
theorem zs_one {g : Nat → Int} {n k : Nat} (e : ∀ j, j < n → 0 ≤ g j) (hk : k < n) : g k ≤ zs g n := by
  induction n with
  | zero => omega
  | succ n ih =>
    rw [zs]
    by_cases q : k = n
    · subst q
      have := zs_nn (n := k) (fun j hj => e j (by omega))
      omega
    · have := ih (fun j hj => e j (by omega)) (by omega)
      have := e n (by omega)
      omega
theorem zs_two {g : Nat → Int} {n k l : Nat} (e : ∀ j, j < n → 0 ≤ g j) (hk : k < n) (hl : l < n) (hkl : k ≠ l) : g k + g l ≤ zs g n := by
  induction n with
  | zero => omega
  | succ n ih =>
    rw [zs]
    have h0 := e n (by omega)
    by_cases q : k = n
    · subst q
      have := zs_one (n := k) (k := l) (fun j hj => e j (by omega)) (by omega)
      omega
    · by_cases q2 : l = n
      · subst q2
        have := zs_one (n := l) (k := k) (fun j hj => e j (by omega)) (by omega)
        omega
      · have := ih (fun j hj => e j (by omega)) (by omega) (by omega)
        omega
theorem zs_const {n : Nat} {c : Int} (hc : 0 ≤ c) {g : Nat → Int} (e : ∀ j, j < n → g j ≤ c) : zs g n ≤ n * c := by
  induction n with
  | zero => simp [zs]
  | succ n ih =>
    rw [zs]
    have h1 := ih (fun j hj => e j (by omega))
    have h2 := e n (by omega)
    have h3 : ((n + 1 : Nat) : Int) * c = n * c + c := by rw [Int.natCast_add, Int.add_mul]; simp
    omega
theorem zs_ns {g : Nat → Nat} {n : Nat} : zs (fun j => (g j : Int)) n = (ns g n : Int) := by
  induction n with
  | zero => rfl
  | succ n ih => rw [zs, ns, ih]; omega
