/-! the list of lashings against the table of pairs -/
def fo {σ : Type} (g : Nat → σ → σ) : Nat → σ → σ
  | 0, s => s
  | n + 1, s => g n (fo g n s)
theorem fo_congr {σ : Type} {g h : Nat → σ → σ} {n : Nat} {s : σ} (e : ∀ j s, j < n → g j s = h j s) : fo g n s = fo h n s := by
  induction n with
  | zero => rfl
  | succ n ih => rw [fo, fo, ih (fun j s hj => e j s (by omega)), e n _ (by omega)]
theorem fs_fo {g : Nat → Int32} {n : Nat} : fs g n = fo (fun k a => a + g k) n 0 := by
  induction n with
  | zero => rfl
  | succ n ih => rw [fs, fo, ih]
/-- κ counts up those below N that P has -/
def enu (κ : Nat → Nat) (m : Nat) (P : Nat → Bool) (N : Nat) : Prop := (∀ i, i < m → κ i < N ∧ P (κ i) = true) ∧ (∀ i j, i < j → j < m → κ i < κ j) ∧ (∀ k, k < N → P k = true → ∃ i, i < m ∧ κ i = k)
theorem enu_fo {σ : Type} {κ : Nat → Nat} {P : Nat → Bool} {g : Nat → σ → σ} {s : σ} : ∀ {N m : Nat}, enu κ m P N → fo (fun i => g (κ i)) m s = fo (fun k s => if P k = true then g k s else s) N s := by
  intro N
  induction N with
  | zero =>
    intro m ⟨h1, h2, h3⟩
    cases m with
    | zero => rfl
    | succ m => exact absurd (h1 0 (by omega)).1 (by omega)
  | succ N ih =>
    intro m ⟨h1, h2, h3⟩
    by_cases hP : P N = true
    · obtain ⟨i, hi, hk⟩ := h3 N (by omega) hP
      have hm : m = i + 1 := by
        by_cases q : i + 1 < m
        · have a := h2 i (i + 1) (by omega) q
          have b := (h1 (i + 1) q).1
          omega
        · omega
      subst hm
      rw [fo, fo, if_pos hP, hk]
      congr 1
      refine ih ⟨fun j hj => ⟨?_, (h1 j (by omega)).2⟩, fun a b h h' => h2 a b h (by omega), fun k hk2 hkP => ?_⟩
      · have := h2 j i hj (by omega); omega
      · obtain ⟨j, hj, hjk⟩ := h3 k (by omega) hkP
        refine ⟨j, ?_, hjk⟩
        by_cases q : j = i
        · subst q; omega
        · omega
    · rw [fo, if_neg hP]
      refine ih ⟨fun j hj => ⟨?_, (h1 j hj).2⟩, h2, fun k hk hkP => h3 k (by omega) hkP⟩
      have a := h1 j hj
      by_cases q : κ j = N
      · rw [q] at a; exact absurd a.2 hP
      · omega
theorem enu_fs {κ : Nat → Nat} {P : Nat → Bool} {g : Nat → Int32} {N m : Nat} (h : enu κ m P N) : fs (fun i => g (κ i)) m = fs (fun k => if P k = true then g k else 0) N := by
  rw [fs_fo, fs_fo, enu_fo (g := fun k a => a + g k) h]
  refine fo_congr fun j s hj => ?_
  split
  · rfl
  · exact (Int32.add_zero s).symm
theorem fs_one {m : Nat} : fs (fun _ => 1) m = nI m := by
  induction m with
  | zero => rfl
  | succ m ih => rw [fs, ih, nI_1]
theorem enu_cnt {κ : Nat → Nat} {P : Nat → Bool} {N m : Nat} (h : enu κ m P N) : nI m = fs (fun k => if P k = true then 1 else 0) N := by
  rw [← fs_one, ← enu_fs (g := fun _ => 1) h]
theorem enu_le {κ : Nat → Nat} {P : Nat → Bool} {N m : Nat} (h : enu κ m P N) : ∀ i, i < m → i ≤ κ i := by
  intro i
  induction i with
  | zero => intro _; omega
  | succ i ih =>
    intro hi
    have := h.2.1 i (i + 1) (by omega) hi
    have := ih (by omega)
    omega
theorem enu_m {κ : Nat → Nat} {P : Nat → Bool} {N m : Nat} (h : enu κ m P N) : m ≤ N := by
  cases m with
  | zero => omega
  | succ m => have := enu_le h m (by omega); have := (h.1 m (by omega)).1; omega
theorem enu_comp {κ ρ : Nat → Nat} {P Q : Nat → Bool} {N m m' : Nat} (h : enu κ m P N) (h' : enu ρ m' (fun i => Q (κ i)) m) (hq : ∀ k, k < N → Q k = true → P k = true) : enu (fun j => κ (ρ j)) m' Q N := by
  refine ⟨fun i hi => ⟨(h.1 _ (h'.1 i hi).1).1, (h'.1 i hi).2⟩, fun i j hij hj => h.2.1 _ _ (h'.2.1 i j hij hj) (h'.1 j hj).1, fun k hk hQ => ?_⟩
  obtain ⟨i, hi, rfl⟩ := h.2.2 k hk (hq k hk hQ)
  obtain ⟨j, hj, rfl⟩ := h'.2.2 i hi hQ
  exact ⟨j, hj, rfl⟩
/-- a search for the first -/
def sr {α : Type} (h : Nat → Option α) : Nat → Nat → Option α
  | 0, _ => none
  | c + 1, j => match h j with
    | some a => some a
    | none => sr h c (j + 1)
theorem sr_some {α : Type} {h : Nat → Option α} {a : α} : ∀ {c j : Nat}, sr h c j = some a → ∃ i, j ≤ i ∧ i < j + c ∧ h i = some a ∧ ∀ k, j ≤ k → k < i → h k = none
  | 0, _, q => by cases q
  | c + 1, j, q => by
    rw [sr] at q
    cases hj : h j with
    | some b => rw [hj] at q; obtain rfl := Option.some.inj q; exact ⟨j, Nat.le_refl _, by omega, hj, fun k _ _ => by omega⟩
    | none =>
      rw [hj] at q
      obtain ⟨i, h1, h2, h3, h4⟩ := sr_some q
      refine ⟨i, by omega, by omega, h3, fun k h5 h6 => ?_⟩
      by_cases hk : k = j
      · subst hk; exact hj
      · exact h4 k (by omega) h6
theorem sr_none {α : Type} {h : Nat → Option α} : ∀ {c j : Nat}, sr h c j = none → ∀ k, j ≤ k → k < j + c → h k = none
  | 0, _, _, k, h1, h2 => by omega
  | c + 1, j, q, k, h1, h2 => by
    rw [sr] at q
    cases hj : h j with
    | some b => rw [hj] at q; cases q
    | none =>
      rw [hj] at q
      by_cases hk : k = j
      · subst hk; exact hj
      · exact sr_none q k (by omega) (by omega)
def orS {α β : Type} (o : Option α) (u : β) : α ⊕ β := match o with
  | some a => .inl a
  | none => .inr u
theorem itS {α β : Type} {u : β} (L : Nat → Int32 → Option (α ⊕ β)) (h : Nat → Option α) (N : Nat) (h0 : ∀ f, L (f + 1) (nI N) = some (.inr u)) (h1 : ∀ f j, j < N → h j = none → L (f + 1) (nI j) = L f (nI (j + 1)))
    (h2 : ∀ f j a, j < N → h j = some a → L (f + 1) (nI j) = some (.inl a)) : ∀ f j, j ≤ N → N < f + j → L f (nI j) = some (orS (sr h (N - j) j) u) := by
  intro f
  induction f with
  | zero => intro j q q'; omega
  | succ f ih =>
    intro j q q'
    by_cases hj : j = N
    · subst hj; rw [h0, Nat.sub_self]; rfl
    · rw [show N - j = (N - (j + 1)) + 1 by omega, sr]
      cases e : h j with
      | some a => rw [h2 f j a (by omega) e]; rfl
      | none => rw [h1 f j (by omega) e, ih (j + 1) (by omega) (by omega)]
theorem itS0 {α β : Type} {u : β} (L : Nat → Int32 → Option (α ⊕ β)) (h : Nat → Option α) (N : Nat) (hN : N < 1000) (h0 : ∀ f, L (f + 1) (nI N) = some (.inr u)) (h1 : ∀ f j, j < N → h j = none → L (f + 1) (nI j) = L f (nI (j + 1)))
    (h2 : ∀ f j a, j < N → h j = some a → L (f + 1) (nI j) = some (.inl a)) : L FU 0 = some (orS (sr h N 0) u) := itS L h N h0 h1 h2 FU 0 (Nat.zero_le _) (by unfold FU; omega)
def pr (a b : Nat) : Nat := 24 * min a b + max a b
theorem pr_lt {a b : Nat} (ha : a < 24) (hb : b < 24) : pr a b < 576 := by unfold pr; omega
theorem pr_comm (a b : Nat) : pr a b = pr b a := by unfold pr; rw [Nat.min_comm, Nat.max_comm]
theorem mmin_n {a b : Nat} (ha : a < 2 ^ 31) (hb : b < 2 ^ 31) : mmin (nI a) (nI b) = nI (min a b) := by
  unfold mmin
  by_cases h : b < a
  · rw [if_pos ((nI_ltI hb ha).mpr h), Nat.min_eq_right (by omega)]
  · rw [if_neg (fun q => h ((nI_ltI hb ha).mp q)), Nat.min_eq_left (by omega)]
theorem mmax_n {a b : Nat} (ha : a < 2 ^ 31) (hb : b < 2 ^ 31) : mmax (nI a) (nI b) = nI (max a b) := by
  unfold mmax
  by_cases h : a < b
  · rw [if_pos ((nI_ltI ha hb).mpr h), Nat.max_eq_right (by omega)]
  · rw [if_neg (fun q => h ((nI_ltI ha hb).mp q)), Nat.max_eq_left (by omega)]
/-- the rows hold, in order, just what the table holds -/
def QOK (m : Nat) (f s t u : Nat → Int32) (κ : Nat → Nat) (T U : Nat → Int32) : Prop := m ≤ 48 ∧ enu κ m (fun k => decide (0 < T k)) 576 ∧ ∀ i, i < m → f i = nI (κ i / 24) ∧ s i = nI (κ i % 24) ∧ t i = T (κ i) ∧ u i = U (κ i)
theorem c_findL {m : Nat} {f s : Nat → Int32} {a b : Int32} (hm : m ≤ 48) : jX2_find_L16 (nI m) f s a b FU 0 = some (orS (sr (fun i => if f i = a ∧ s i = b then some (nI i) else none) m 0) ()) := by
  refine itS0 (fun g v => jX2_find_L16 (nI m) f s a b g v) _ m (by omega) (fun g => ?_) (fun g j hj h => ?_) (fun g j x hj h => ?_)
  · simp (disch := omega) only [chk_n, rd_n, wr_n, bnd_n, chkZ_a, chkZ_b, jn_n, sel_a, sel_b, nI_leI, nI_ltI, nI_eq, nI_1, nI_add, upd_a, jX2_find_L16, Nat.le_refl, if_true]
  · simp (disch := omega) only [chk_n, rd_n, wr_n, bnd_n, chkZ_a, chkZ_b, jn_n, sel_a, sel_b, nI_leI, nI_ltI, nI_eq, nI_1, nI_add, upd_a, jX2_find_L16, Nat.not_le.mpr hj, if_false]
    by_cases h1 : f j = a
    · by_cases h2 : s j = b
      · rw [if_pos ⟨h1, h2⟩] at h; cases h
      · simp only [h1, h2, if_true, if_false]
    · simp only [h1, if_false]
  · simp (disch := omega) only [chk_n, rd_n, wr_n, bnd_n, chkZ_a, chkZ_b, jn_n, sel_a, sel_b, nI_leI, nI_ltI, nI_eq, nI_1, nI_add, upd_a, jX2_find_L16, Nat.not_le.mpr hj, if_false]
    by_cases h1 : f j = a ∧ s j = b
    · rw [if_pos h1] at h
      simp only [h1.1, h1.2, if_true, Option.some.inj h]
    · rw [if_neg h1] at h; cases h
theorem c_find {m : Nat} {f s t u : Nat → Int32} {κ : Nat → Nat} {T U : Nat → Int32} {a b : Nat} (Q : QOK m f s t u κ T U) (ha : a < 24) (hb : b < 24) :
    (0 < T (pr a b) → ∃ i, i < m ∧ κ i = pr a b ∧ jX2_find (nI m) f s (nI a) (nI b) = some (nI i)) ∧ (¬ 0 < T (pr a b) → jX2_find (nI m) f s (nI a) (nI b) = some (-1)) := by
  obtain ⟨hm, he, hr⟩ := Q
  have key : ∀ i, i < m → ((f i = nI (min a b) ∧ s i = nI (max a b)) ↔ κ i = pr a b) := fun i hi => by
    obtain ⟨h1, h2, -, -⟩ := hr i hi
    have := (he.1 i hi).1
    rw [h1, h2, nI_eq (by omega) (by omega), nI_eq (by omega) (by omega)]
    unfold pr
    omega
  unfold jX2_find
  rw [mmin_n (by omega) (by omega), mmax_n (by omega) (by omega), c_findL hm, bnd_n]
  cases e : sr (fun i => if f i = nI (min a b) ∧ s i = nI (max a b) then some (nI i) else none) m 0 with
  | none =>
    refine ⟨fun h => ?_, fun _ => rfl⟩
    obtain ⟨i, hi, hk⟩ := he.2.2 (pr a b) (pr_lt ha hb) (decide_eq_true h)
    have := sr_none e i (by omega) (by omega)
    rw [if_pos ((key i hi).mpr hk)] at this
    cases this
  | some x =>
    obtain ⟨i, -, hi, hx, -⟩ := sr_some e
    by_cases q : f i = nI (min a b) ∧ s i = nI (max a b)
    · rw [if_pos q] at hx
      have hk := (key i (by omega)).mp q
      obtain rfl := Option.some.inj hx
      refine ⟨fun _ => ⟨i, by omega, hk, rfl⟩, fun h => ?_⟩
      have := (he.1 i (by omega)).2
      rw [hk] at this
      exact absurd (of_decide_eq_true this) h
    · rw [if_neg q] at hx; cases hx
theorem c_undo {t : Nat → Int32} {i : Nat} (h : i < 48) : jX2_undo t (nI i) = some (upd t i 0) := by
  unfold jX2_undo
  simp (disch := omega) only [chk_n, rd_n, wr_n, bnd_n, chkZ_a, chkZ_b, jn_n, sel_a, sel_b, nI_leI, nI_ltI, nI_eq, nI_1, nI_add, upd_a]
theorem c_renew {t u : Nat → Int32} {i : Nat} {x : Int32} (h : i < 48) : jX2_renew t u (nI i) x = some (upd t i x, upd u i 0) := by
  unfold jX2_renew
  simp (disch := omega) only [chk_n, rd_n, wr_n, bnd_n, chkZ_a, chkZ_b, jn_n, sel_a, sel_b, nI_leI, nI_ltI, nI_eq, nI_1, nI_add, upd_a]
theorem c_left {t u : Nat → Int32} {i : Nat} (h : i < 48) : jX2_left t u (nI i) = some (t i - u i) := by
  unfold jX2_left
  simp (disch := omega) only [chk_n, rd_n, wr_n, bnd_n, chkZ_a, chkZ_b, jn_n, sel_a, sel_b, nI_leI, nI_ltI, nI_eq, nI_1, nI_add, upd_a]
theorem c_move {f s t u : Nat → Int32} {i j : Nat} (h : i < 48) (h' : j < 48) : jX2_move f s t u (nI i) (nI j) = some (upd f j (f i), upd s j (s i), upd t j (t i), upd u j (u i)) := by
  unfold jX2_move
  simp (disch := omega) only [chk_n, rd_n, wr_n, bnd_n, chkZ_a, chkZ_b, jn_n, sel_a, sel_b, nI_leI, nI_ltI, nI_eq, nI_1, nI_add, upd_a]
theorem c_sweep {m : Nat} {f s t u : Nat → Int32} (hm : m ≤ 48) : ∃ q, jX2_sweep (nI m) f s t u = some q ∧ ∃ m' ρ, q.1 = nI m' ∧ m' ≤ m ∧ enu ρ m' (fun i => decide (0 < t i)) m ∧ ∀ j, j < m' → q.2.1 j = f (ρ j) ∧ q.2.2.1 j = s (ρ j) ∧ q.2.2.2.1 j = t (ρ j) ∧ q.2.2.2.2 j = u (ρ j) := by
  refine (itI0 (s0 := (f, s, t, u, (0 : Int32))) (fun g (x : (Nat → Int32) × (Nat → Int32) × (Nat → Int32) × (Nat → Int32) × Int32) v => jX2_sweep_L4 (nI m) g x.1 x.2.1 x.2.2.1 x.2.2.2.1 x.2.2.2.2 v) m
    (fun v x => ∃ c ρ, x.2.2.2.2 = nI c ∧ c ≤ v ∧ enu ρ c (fun i => decide (0 < t i)) v ∧ (∀ j, j < c → x.1 j = f (ρ j) ∧ x.2.1 j = s (ρ j) ∧ x.2.2.1 j = t (ρ j) ∧ x.2.2.2.1 j = u (ρ j)) ∧ ∀ j, v ≤ j → x.1 j = f j ∧ x.2.1 j = s j ∧ x.2.2.1 j = t j ∧ x.2.2.2.1 j = u j)
    (fun r => ∃ c ρ, r.2.2.2.2 = nI c ∧ c ≤ m ∧ enu ρ c (fun i => decide (0 < t i)) m ∧ ∀ j, j < c → r.1 j = f (ρ j) ∧ r.2.1 j = s (ρ j) ∧ r.2.2.1 j = t (ρ j) ∧ r.2.2.2.1 j = u (ρ j)) (by omega)
    ⟨0, id, rfl, Nat.le_refl _, ⟨fun i hi => by omega, fun i j _ hj => by omega, fun k hk => by omega⟩, fun j hj => by omega, fun j _ => ⟨rfl, rfl, rfl, rfl⟩⟩
    (fun g x ⟨c, ρ, h1, h2, h3, h4, _⟩ => ⟨_, by simp (disch := omega) only [chk_n, rd_n, wr_n, bnd_n, chkZ_a, chkZ_b, jn_n, sel_a, sel_b, nI_leI, nI_ltI, nI_eq, nI_1, nI_add, upd_a, jX2_sweep_L4, Nat.le_refl, if_true], c, ρ, h1, h2, h3, h4⟩)
    (fun g v x hv ⟨c, ρ, h1, h2, h3, h4, h5⟩ => ?_)).elim (fun r ⟨hr, c, ρ, h1, h2, h3, h4⟩ => ⟨(r.2.2.2.2, r.1, r.2.1, r.2.2.1, r.2.2.2.1), bnd_i hr rfl, c, ρ, h1, h2, h3, h4⟩)
  · obtain ⟨x1, x2, x3, x4, x5⟩ := x
    dsimp only at h1 h4 h5 ⊢
    subst h1
    obtain ⟨e1, e2, e3, e4⟩ := h5 v (Nat.le_refl _)
    by_cases hp : t v ≤ 0
    · refine ⟨(x1, x2, x3, x4, nI c), ⟨c, ρ, rfl, by omega, ⟨fun i hi => ⟨by have := (h3.1 i hi).1; omega, (h3.1 i hi).2⟩, h3.2.1, fun k hk hkP => ?_⟩, h4, fun j hj => h5 j (by omega)⟩, ?_⟩
      · by_cases q : k = v
        · subst q
          exact absurd (of_decide_eq_true hkP) (Int32.not_lt.mpr hp)
        · exact h3.2.2 k (by omega) hkP
      · simp (disch := omega) only [chk_n, rd_n, wr_n, bnd_n, chkZ_a, chkZ_b, jn_n, sel_a, sel_b, nI_leI, nI_ltI, nI_eq, nI_1, nI_add, upd_a, jX2_sweep_L4, Nat.not_le.mpr hv, if_false, e3, hp, if_true]
    · refine ⟨(upd x1 c (x1 v), upd x2 c (x2 v), upd x3 c (x3 v), upd x4 c (x4 v), nI (c + 1)), ⟨c + 1, fun j => if j = c then v else ρ j, rfl, by omega, ⟨fun i hi => ?_, fun i j hij hj => ?_, fun k hk hkP => ?_⟩, fun j hj => ?_, fun j hj => ?_⟩, ?_⟩
      · dsimp only
        split
        · exact ⟨by omega, decide_eq_true (Int32.not_le.mp hp)⟩
        · have := h3.1 i (by omega)
          exact ⟨by omega, this.2⟩
      · dsimp only
        rw [if_neg (by omega : i ≠ c)]
        split
        · exact (h3.1 i (by omega)).1
        · exact h3.2.1 i j hij (by omega)
      · by_cases q : k = v
        · exact ⟨c, by omega, by dsimp only; rw [if_pos rfl, q]⟩
        · obtain ⟨i, hi, hik⟩ := h3.2.2 k (by omega) hkP
          exact ⟨i, by omega, by dsimp only; rw [if_neg (by omega), hik]⟩
      · dsimp only
        by_cases q : j = c
        · subst q
          rw [upd_a, upd_a, upd_a, upd_a, if_pos rfl]
          exact ⟨e1, e2, e3, e4⟩
        · rw [upd_b q, upd_b q, upd_b q, upd_b q, if_neg q]
          exact h4 j (by omega)
      · dsimp only
        rw [upd_b (by omega), upd_b (by omega), upd_b (by omega), upd_b (by omega)]
        exact h5 j (by omega)
      · simp (disch := omega) only [chk_n, rd_n, wr_n, bnd_n, chkZ_a, chkZ_b, jn_n, sel_a, sel_b, nI_leI, nI_ltI, nI_eq, nI_1, nI_add, upd_a, jX2_sweep_L4, Nat.not_le.mpr hv, if_false, e3, hp, c_move]
theorem QOK_sweep {m : Nat} {f s t u t1 u1 : Nat → Int32} {κ : Nat → Nat} {T U T' U' : Nat → Int32} (Q : QOK m f s t u κ T U) (ht : ∀ i, i < m → t1 i = T' (κ i)) (hu : ∀ i, i < m → 0 < T' (κ i) → u1 i = U' (κ i)) (hT : ∀ k, k < 576 → 0 < T' k → 0 < T k) :
    ∃ m' f' s' t' u' κ', jX2_sweep (nI m) f s t1 u1 = some (nI m', f', s', t', u') ∧ m' ≤ m ∧ QOK m' f' s' t' u' κ' T' U' := by
  obtain ⟨hm, he, hr⟩ := Q
  obtain ⟨⟨q1, q2, q3, q4, q5⟩, hq, m', ρ, h1, h2, h3, h4⟩ := c_sweep (f := f) (s := s) (t := t1) (u := u1) hm
  dsimp only at h1 h4
  subst h1
  have h3' : enu ρ m' (fun i => (fun k => decide (0 < T' k)) (κ i)) m := by
    refine ⟨fun i hi => ⟨(h3.1 i hi).1, ?_⟩, h3.2.1, fun k hk hkP => h3.2.2 k hk ?_⟩
    · have := (h3.1 i hi).2
      dsimp only at this ⊢
      rw [ht _ (h3.1 i hi).1] at this
      exact this
    · dsimp only at hkP ⊢
      rw [ht k hk]; exact hkP
  refine ⟨m', q2, q3, q4, q5, fun j => κ (ρ j), hq, h2, by omega, enu_comp he h3' (fun k hk h => ?_), fun j hj => ?_⟩
  · exact decide_eq_true (hT k hk (of_decide_eq_true h))
  · obtain ⟨a1, a2, a3, a4⟩ := h4 j hj
    have hlt := (h3.1 j hj).1
    obtain ⟨b1, b2, -, -⟩ := hr _ hlt
    refine ⟨a1.trans b1, a2.trans b2, a3.trans (ht _ hlt), a4.trans (hu _ hlt ?_)⟩
    exact of_decide_eq_true (h3'.1 j hj).2
theorem c_isAfter {f s : Nat → Int32} {k a b i : Nat} (hi : i < 48) (hk : k < 576) (ha : a < 24) (hb : b < 24) (hf : f i = nI (k / 24)) (hs : s i = nI (k % 24)) : jX2_isAfter f s (nI i) (nI a) (nI b) = some (if 24 * a + b < k then 1 else 0) := by
  unfold jX2_isAfter
  simp (disch := omega) only [chk_n, rd_n, wr_n, bnd_n, chkZ_a, chkZ_b, jn_n, sel_a, sel_b, nI_leI, nI_ltI, nI_eq, nI_1, nI_add, upd_a, hf, hs]
  by_cases h1 : a < k / 24
  · rw [if_pos h1, if_pos (by omega)]
  · rw [if_neg h1]
    by_cases h2 : k / 24 = a
    · rw [if_pos h2]
      by_cases h3 : k % 24 ≤ b
      · rw [if_pos h3, if_neg (by omega)]
      · rw [if_neg h3, if_pos (by omega)]
    · rw [if_neg h2, if_neg (by omega)]
/-- the loop that makes room: all from the place on go one further -/
theorem c_insL {m : Nat} {f s t u : Nat → Int32} {κ : Nat → Nat} {a b : Nat} (hm : m < 48) (ha : a < 24) (hb : b < 24) (hk : ∀ i, i < m → κ i < 576 ∧ f i = nI (κ i / 24) ∧ s i = nI (κ i % 24)) (hne : ∀ i, i < m → κ i ≠ 24 * a + b) :
    ∀ (g i : Nat) (f1 s1 t1 u1 : Nat → Int32), i ≤ m → i < g → (∀ j, j < i → f1 j = f j ∧ s1 j = s j ∧ t1 j = t j ∧ u1 j = u j) → (∀ j, i < j → j ≤ m → f1 j = f (j - 1) ∧ s1 j = s (j - 1) ∧ t1 j = t (j - 1) ∧ u1 j = u (j - 1)) → (∀ j, i ≤ j → j < m → 24 * a + b < κ j) →
    ∃ f2 s2 t2 u2 p, jX2_insert_L14 (nI a) (nI b) g f1 s1 t1 u1 (nI i) (nI i - 1) = some (f2, s2, t2, u2, nI p) ∧ p ≤ m ∧ (∀ j, j < p → f2 j = f j ∧ s2 j = s j ∧ t2 j = t j ∧ u2 j = u j) ∧ (∀ j, p < j → j ≤ m → f2 j = f (j - 1) ∧ s2 j = s (j - 1) ∧ t2 j = t (j - 1) ∧ u2 j = u (j - 1)) ∧ (∀ j, p ≤ j → j < m → 24 * a + b < κ j) ∧ (∀ j, j < p → j + 1 = p → κ j < 24 * a + b) := by
  intro g
  induction g with
  | zero => intro i _ _ _ _ _ h; omega
  | succ g ih =>
    intro i f1 s1 t1 u1 him hig h1 h2 h3
    rw [jX2_insert_L14]
    cases i with
    | zero =>
      rw [if_pos (by decide : nI 0 - 1 < 0)]
      exact ⟨f1, s1, t1, u1, 0, rfl, by omega, h1, h2, h3, fun j h => by omega⟩
    | succ i =>
      have e : nI (i + 1) - 1 = nI i := by rw [l1, pk_sub (by omega)]; rfl
      rw [e, if_neg (n_neg (by omega))]
      obtain ⟨k1, k2, k3⟩ := hk i (by omega)
      obtain ⟨w1, w2, w3, w4⟩ := h1 i (by omega)
      rw [c_isAfter (k := κ i) (by omega) k1 ha hb (w1.trans k2) (w2.trans k3), bnd_n]
      by_cases hc : 24 * a + b < κ i
      · rw [if_pos hc, if_neg (by decide), nI_1, c_move (by omega) (by omega), bnd_n]
        rw [show nI i + (-1) = nI i - 1 from (Int32.sub_eq_add_neg (a := nI i) (b := 1)).symm]
        refine ih i _ _ _ _ (by omega) (by omega) (fun j hj => ?_) (fun j hj hj2 => ?_) (fun j hj hj2 => ?_)
        · dsimp only
          rw [upd_b (by omega), upd_b (by omega), upd_b (by omega), upd_b (by omega)]
          exact h1 j (by omega)
        · by_cases q : j = i + 1
          · subst q
            dsimp only
            rw [upd_a, upd_a, upd_a, upd_a]
            exact ⟨w1, w2, w3, w4⟩
          · dsimp only
            rw [upd_b q, upd_b q, upd_b q, upd_b q]
            exact h2 j (by omega) hj2
        · by_cases q : j = i
          · subst q; exact hc
          · exact h3 j (by omega) hj2
      · rw [if_neg hc, if_pos rfl]
        refine ⟨f1, s1, t1, u1, i + 1, rfl, him, h1, h2, h3, fun j hj hj2 => ?_⟩
        obtain rfl : j = i := by omega
        have := hne j (by omega)
        omega
theorem c_insert {m : Nat} {f s t u : Nat → Int32} {κ : Nat → Nat} {T U : Nat → Int32} {a b : Nat} {x : Int32} (Q : QOK m f s t u κ T U) (hm : m < 48) (ha : a < b) (hb : b < 24) (h0 : ¬ 0 < T (24 * a + b)) (hx : 0 < x) :
    ∃ f' s' t' u' κ', jX2_insert (nI m) f s t u (nI a) (nI b) x = some (nI (m + 1), f', s', t', u') ∧ QOK (m + 1) f' s' t' u' κ' (upd T (24 * a + b) x) (upd U (24 * a + b) 0) := by
  obtain ⟨_, he, hr⟩ := Q
  have hne : ∀ i, i < m → κ i ≠ 24 * a + b := fun i hi q => by
    have := (he.1 i hi).2
    rw [q] at this
    exact h0 (of_decide_eq_true this)
  obtain ⟨f2, s2, t2, u2, p, hL, hp, h1, h2, h3, h4⟩ := c_insL (f := f) (s := s) (t := t) (u := u) (κ := κ) hm (by omega : a < 24) hb (fun i hi => ⟨(he.1 i hi).1, (hr i hi).1, (hr i hi).2.1⟩) hne FU m f s t u (Nat.le_refl _) (by unfold FU; omega) (fun j _ => ⟨rfl, rfl, rfl, rfl⟩) (fun j h h' => by omega) (fun j h h' => by omega)
  have hlow : ∀ j, j < p → κ j < 24 * a + b := fun j hj => by
    have e := h4 (p - 1) (by omega) (by omega)
    by_cases q : j = p - 1
    · rw [q]; exact e
    · have := he.2.1 j (p - 1) (by omega) (by omega)
      omega
  refine ⟨upd f2 p (nI a), upd s2 p (nI b), upd t2 p x, upd u2 p 0, fun j => if j < p then κ j else if j = p then 24 * a + b else κ (j - 1), ?_, by omega, ⟨fun i hi => ?_, fun i j hij hj => ?_, fun k hk hkP => ?_⟩, fun i hi => ?_⟩
  · unfold jX2_insert
    refine bnd_i hL ?_
    simp (disch := omega) only [chk_n, rd_n, wr_n, bnd_n, chkZ_a, chkZ_b, jn_n, sel_a, sel_b, nI_leI, nI_ltI, nI_eq, nI_1, nI_add, upd_a, c_renew]
  · dsimp only
    by_cases q : i < p
    · rw [if_pos q]
      have := he.1 i (by omega)
      refine ⟨this.1, ?_⟩
      rw [upd_b (hne i (by omega))]; exact this.2
    · rw [if_neg q]
      by_cases q2 : i = p
      · rw [if_pos q2, upd_a]
        exact ⟨by omega, decide_eq_true hx⟩
      · rw [if_neg q2]
        have := he.1 (i - 1) (by omega)
        refine ⟨this.1, ?_⟩
        rw [upd_b (hne (i - 1) (by omega))]; exact this.2
  · dsimp only
    by_cases q : j < p
    · rw [if_pos q, if_pos (by omega)]
      exact he.2.1 i j hij (by omega)
    · rw [if_neg q]
      by_cases q2 : j = p
      · rw [if_pos q2, if_pos (by omega)]
        exact hlow i (by omega)
      · rw [if_neg q2]
        have hj2 := h3 (j - 1) (by omega) (by omega)
        by_cases q3 : i < p
        · rw [if_pos q3]
          have := hlow i q3
          omega
        · rw [if_neg q3]
          by_cases q4 : i = p
          · rw [if_pos q4]; exact hj2
          · rw [if_neg q4]
            exact he.2.1 _ _ (by omega) (by omega)
  · by_cases q : k = 24 * a + b
    · exact ⟨p, by omega, by dsimp only; rw [if_neg (by omega), if_pos rfl, q]⟩
    · dsimp only at hkP
      rw [upd_b q] at hkP
      obtain ⟨i, hi, hik⟩ := he.2.2 k hk hkP
      by_cases q2 : i < p
      · exact ⟨i, by omega, by dsimp only; rw [if_pos q2, hik]⟩
      · exact ⟨i + 1, by omega, by dsimp only; rw [if_neg (by omega), if_neg (by omega)]; exact hik⟩
  · dsimp only
    by_cases q : i < p
    · have q' : i ≠ p := by omega
      have q2 := hne i (by omega)
      rw [if_pos q, upd_b q', upd_b q', upd_b q', upd_b q', upd_b q2, upd_b q2]
      obtain ⟨a1, a2, a3, a4⟩ := h1 i q
      obtain ⟨b1, b2, b3, b4⟩ := hr i (by omega)
      exact ⟨a1.trans b1, a2.trans b2, a3.trans b3, a4.trans b4⟩
    · rw [if_neg q]
      by_cases q2 : i = p
      · subst q2
        rw [if_pos rfl, upd_a, upd_a, upd_a, upd_a, upd_a, upd_a]
        exact ⟨by congr 1; omega, by congr 1; omega, rfl, rfl⟩
      · rw [if_neg q2, upd_b q2, upd_b q2, upd_b q2, upd_b q2, upd_b (hne (i - 1) (by omega)), upd_b (hne (i - 1) (by omega))]
        obtain ⟨a1, a2, a3, a4⟩ := h2 i (by omega) (by omega)
        obtain ⟨b1, b2, b3, b4⟩ := hr (i - 1) (by omega)
        exact ⟨a1.trans b1, a2.trans b2, a3.trans b3, a4.trans b4⟩
theorem QOK_renew {m : Nat} {f s t u : Nat → Int32} {κ : Nat → Nat} {T U : Nat → Int32} {i : Nat} {x : Int32} (Q : QOK m f s t u κ T U) (hi : i < m) (hx : 0 < x) : QOK m f s (upd t i x) (upd u i 0) κ (upd T (κ i) x) (upd U (κ i) 0) := by
  obtain ⟨hm, he, hr⟩ := Q
  have hP : ∀ k, (decide (0 < upd T (κ i) x k) = true) ↔ decide (0 < T k) = true := fun k => by
    by_cases q : k = κ i
    · subst q
      rw [upd_a]
      exact ⟨fun _ => (he.1 i hi).2, fun _ => decide_eq_true hx⟩
    · rw [upd_b q]
  refine ⟨hm, ⟨fun j hj => ⟨(he.1 j hj).1, (hP _).mpr (he.1 j hj).2⟩, he.2.1, fun k hk h => he.2.2 k hk ((hP k).mp h)⟩, fun j hj => ?_⟩
  obtain ⟨b1, b2, b3, b4⟩ := hr j hj
  by_cases q : j = i
  · subst q
    rw [upd_a, upd_a, upd_a, upd_a]
    exact ⟨b1, b2, rfl, rfl⟩
  · have : κ j ≠ κ i := by
      by_cases q2 : j < i
      · have := he.2.1 j i q2 hi; omega
      · have := he.2.1 i j (by omega) hj; omega
    rw [upd_b q, upd_b q, upd_b this, upd_b this]
    exact ⟨b1, b2, b3, b4⟩
