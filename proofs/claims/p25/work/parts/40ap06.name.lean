/-! the reference, piece by piece; its naming of the pieces -/
theorem r_pair {a b : Nat} (ha : a < 24) (hb : b < 24) : jX7_pair (nI a) (nI b) = some (nI (pr a b)) := by
  unfold jX7_pair pr
  rw [mmin_n (by omega) (by omega), mmax_n (by omega) (by omega), l24, pk_mul, nI_add]
theorem r_tied {T : Nat → Int32} {a b : Nat} (ha : a < 24) (hb : b < 24) : jX7_isTied T (nI a) (nI b) = some (if 0 < T (pr a b) then 1 else 0) := by
  have := pr_lt ha hb
  unfold jX7_isTied
  rw [r_pair ha hb, bnd_n, chk_n this (by omega), rd_n (by omega)]
  by_cases h : T (pr a b) ≤ 0
  · rw [if_pos h, if_neg (Int32.not_lt.mpr h), chkZ_a]
  · rw [if_neg h, if_pos (Int32.not_le.mp h), chkZ_b]
theorem r_ba {tb : Nat → Int32} {j w : Nat} (h : 5 * j + w < 120) : jX7_ba tb (nI j) (nI w) = some (tb (5 * j + w)) := by
  unfold jX7_ba
  rw [show (5 : Int32) = nI 5 from rfl, pk_mul, nI_add, chk_n h (by omega), rd_n (by omega)]
theorem r_fx {fx : Nat → Int32} {j w : Nat} (h : 3 * j + w < 72) : jX7_fx fx (nI j) (nI w) = some (fx (3 * j + w)) := by
  unfold jX7_fx
  rw [show (3 : Int32) = nI 3 from rfl, pk_mul, nI_add, chk_n h (by omega), rd_n (by omega)]
theorem r_set {tb : Nat → Int32} {j w : Nat} {x : Int32} (h : 5 * j + w < 120) : jX7_set tb (nI j) (nI w) x = some (upd tb (5 * j + w) x) := by
  unfold jX7_set
  rw [show (5 : Int32) = nI 5 from rfl, pk_mul, nI_add, chk_n h (by omega), wr_n (by omega)]
theorem r_floats {tb : Nat → Int32} {j : Nat} (h : j < 24) : jX7_floats tb (nI j) = some (if tb (5 * j + 2) = 0 then 1 else 0) := by
  unfold jX7_floats
  rw [l2, r_ba (by omega), bnd_n]
  by_cases q : tb (5 * j + 2) = 0
  · rw [if_pos q, if_pos q, chkZ_b]
  · rw [if_neg q, if_neg q, chkZ_a]
theorem one_ne : ¬ (1 : Int32) = 0 := by decide
theorem r_name0 {n : Nat} {tb st p : Nat → Int32} (hn : n ≤ 24) (hs : ∀ j, j < n → tb (5 * j + 2) = st j) : jX7_name_L2 (nI n) tb FU p 0 = some (fun i => if i < n then (if st i = 0 then nI i else -1) else p i) := by
  refine itF0 (fun f s v => jX7_name_L2 (nI n) tb f s v) (fun j i => if i < j then (if st i = 0 then nI i else -1) else p i) n (by omega) (by simp) (fun f => ?_) (fun f j hj => ?_)
  · simp (disch := omega) only [chk_n, rd_n, wr_n, bnd_n, chkZ_a, chkZ_b, jn_n, sel_a, sel_b, nI_leI, nI_ltI, nI_eq, nI_1, nI_add, upd_a, jX7_name_L2, Nat.le_refl, if_true]
  · rw [jX7_name_L2, if_neg (fun q => by have := (nI_leI (by omega) (by omega)).mp q; omega), r_floats (by omega), bnd_n, hs j hj]
    by_cases h : st j = 0
    · rw [if_pos h, if_neg one_ne]
      simp (disch := omega) only [chk_n, rd_n, wr_n, bnd_n, chkZ_a, chkZ_b, jn_n, sel_a, sel_b, nI_leI, nI_ltI, nI_eq, nI_1, nI_add, upd_a]
      congr 1
      funext i
      unfold upd
      by_cases hi : i = j
      · subst hi
        simp [h]
      · simp only [if_neg hi, p_lts hi]
    · rw [if_neg h, if_pos rfl]
      simp (disch := omega) only [chk_n, rd_n, wr_n, bnd_n, chkZ_a, chkZ_b, jn_n, sel_a, sel_b, nI_leI, nI_ltI, nI_eq, nI_1, nI_add, upd_a]
      congr 1
      funext i
      unfold upd
      by_cases hi : i = j
      · subst hi
        simp [h]
      · simp only [if_neg hi, p_lts hi]
/-- a sum of numbers -/
def ns (g : Nat → Nat) : Nat → Nat
  | 0 => 0
  | n + 1 => ns g n + g n
theorem ns_congr {g h : Nat → Nat} {n : Nat} (e : ∀ j, j < n → g j = h j) : ns g n = ns h n := by
  induction n with
  | zero => rfl
  | succ n ih => rw [ns, ns, ih (fun j hj => e j (by omega)), e n (by omega)]
theorem ns_le {g h : Nat → Nat} {n : Nat} (e : ∀ j, j < n → g j ≤ h j) : ns g n ≤ ns h n := by
  induction n with
  | zero => exact Nat.le_refl _
  | succ n ih => rw [ns, ns]; have := ih (fun j hj => e j (by omega)); have := e n (by omega); omega
theorem ns_lt {g h : Nat → Nat} {n k : Nat} (e : ∀ j, j < n → g j ≤ h j) (hk : k < n) (hl : g k < h k) : ns g n < ns h n := by
  induction n with
  | zero => omega
  | succ n ih =>
    rw [ns, ns]
    by_cases q : k = n
    · subst q
      have := ns_le (fun j hj => e j (by omega) : ∀ j, j < k → g j ≤ h j)
      omega
    · have := ih (fun j hj => e j (by omega)) (by omega)
      have := e n (by omega)
      omega
def ms (n : Nat) (p : Nat → Int32) : Nat := ns (fun j => (p j).toNatClampNeg) n
/-- what all rounds of naming keep -/
def NI (n : Nat) (st : Nat → Int32) (R : Nat → Nat → Prop) (p : Nat → Int32) : Prop :=
  (∀ j, j < n → st j = 0 → ∃ i, i ≤ j ∧ p j = nI i ∧ conn R i j) ∧ ∀ j, j < n → st j ≠ 0 → p j = -1
/-- within a round: no change so far, and those seen are right; or less than before -/
def NJ (n : Nat) (st : Nat → Int32) (R : Nat → Nat → Prop) (p0 : Nat → Int32) (a b : Nat) (p : Nat → Int32) (fl : Int32) : Prop :=
  NI n st R p ∧ ((fl = 0 ∧ p = p0 ∧ ∀ c d, R c d → c < d → (c < a ∨ (c = a ∧ d < b)) → p c = p d) ∨ (fl = 1 ∧ ms n p < ms n p0))
theorem r_name57 {n a : Nat} {T st p0 : Nat → Int32} (hn : n ≤ 24) (hT : TOK n st T) (ha : a < n) (p : Nat → Int32) (fl : Int32) (h : NJ n st (Tie n T) p0 a (a + 1) p fl) :
    ∃ q, jX7_name_L57 (nI n) T (nI a) FU p fl (nI (a + 1)) = some q ∧ NJ n st (Tie n T) p0 a n q.1 q.2 := by
  refine itI (fun f (x : (Nat → Int32) × Int32) v => jX7_name_L57 (nI n) T (nI a) f x.1 x.2 v) n (fun b x => a < b ∧ NJ n st (Tie n T) p0 a b x.1 x.2) (fun q => NJ n st (Tie n T) p0 a n q.1 q.2) (fun f x hx => ?_) (fun f b x hb hx => ?_) FU (a + 1) (p, fl) (by omega) (by unfold FU; omega) ⟨by omega, h⟩
  · exact ⟨x, by rw [jX7_name_L57, if_pos (Int32.le_refl _)], hx.2⟩
  · obtain ⟨p, fl⟩ := x
    obtain ⟨hab, hNI, hc⟩ := hx
    dsimp only at hNI hc ⊢
    rw [jX7_name_L57, if_neg (fun q => by have := (nI_leI (by omega) (by omega)).mp q; omega), r_tied (by omega) (by omega), bnd_n]
    by_cases ht : 0 < T (pr a b)
    · have hR : Tie n T a b := ⟨ha, hb, by omega, ht⟩
      obtain ⟨c, d, hk, hcd, hdn, h0c, h0d, -⟩ := hT (pr a b) (pr_lt (by omega) (by omega)) (fun q => by rw [q] at ht; exact absurd ht (by decide))
      have hcd2 := pr_cases hk hcd (by omega) (by omega) (by omega)
      obtain ⟨rfl, rfl⟩ : a = c ∧ b = d := by omega
      obtain ⟨x, hx, ex, cx⟩ := hNI.1 a ha h0c
      obtain ⟨y, hy, ey, cy⟩ := hNI.1 b hb h0d
      rw [if_pos ht, if_neg one_ne]
      rw [chk_n (by omega) (by omega), chk_n (by omega) (by omega), rd_n (by omega), rd_n (by omega), ex, ey]
      by_cases hxy : x = y
      · subst hxy
        refine ⟨(p, fl), ⟨by omega, hNI, hc.imp (fun ⟨h1, h2, h3⟩ => ⟨h1, h2, fun c d hcd h5 h6 => ?_⟩) id⟩, by rw [if_pos rfl, nI_1]⟩
        by_cases q : c = a ∧ d = b
        · rw [q.1, q.2]; exact ex.trans ey.symm
        · exact h3 c d hcd h5 (by omega)
      · rw [if_neg (fun q => hxy ((nI_eq (by omega) (by omega)).mp q)), mmin_n (by omega) (by omega)]
        simp (disch := omega) only [chk_n, rd_n, wr_n, bnd_n, chkZ_a, chkZ_b, jn_n, sel_a, sel_b, nI_leI, nI_ltI, nI_eq, nI_1, nI_add, upd_a]
        refine ⟨(upd (upd p a (nI (min x y))) b (nI (min x y)), 1), ⟨by omega, ⟨fun j hj h0 => ?_, fun j hj h0 => ?_⟩, Or.inr ⟨rfl, ?_⟩⟩, rfl⟩
        · have cab : conn (Tie n T) a b := conn_step conn_refl hR
          have cba : conn (Tie n T) b a := conn_step conn_refl (Tie_symm _ _ hR)
          unfold upd
          dsimp only
          by_cases q : j = b
          · subst q
            rw [if_pos rfl]
            refine ⟨min x y, by omega, rfl, ?_⟩
            rcases Nat.le_total x y with w | w
            · rw [Nat.min_eq_left w]; exact conn_trans cx cab
            · rw [Nat.min_eq_right w]; exact cy
          · rw [if_neg q]
            by_cases q2 : j = a
            · subst q2
              rw [if_pos rfl]
              refine ⟨min x y, by omega, rfl, ?_⟩
              rcases Nat.le_total x y with w | w
              · rw [Nat.min_eq_left w]; exact cx
              · rw [Nat.min_eq_right w]; exact conn_trans cy cba
            · rw [if_neg q2]
              exact hNI.1 j hj h0
        · have q : j ≠ b := fun q => h0 (q ▸ h0d)
          have q2 : j ≠ a := fun q => h0 (q ▸ h0c)
          dsimp only
          rw [upd_b q, upd_b q2]
          exact hNI.2 j hj h0
        · have hle : ∀ j, j < n → (upd (upd p a (nI (min x y))) b (nI (min x y)) j).toNatClampNeg ≤ (p j).toNatClampNeg := fun j hj => by
            unfold upd
            by_cases q : j = b
            · subst q
              rw [if_pos rfl, ey, clamp_n (by omega), clamp_n (by omega)]; omega
            · rw [if_neg q]
              by_cases q2 : j = a
              · subst q2
                rw [if_pos rfl, ex, clamp_n (by omega), clamp_n (by omega)]; omega
              · rw [if_neg q2]; exact Nat.le_refl _
          have hl : ms n (upd (upd p a (nI (min x y))) b (nI (min x y))) < ms n p := by
            by_cases w : x < y
            · refine ns_lt hle hb ?_
              rw [upd_a, ey, clamp_n (by omega), clamp_n (by omega)]; omega
            · refine ns_lt hle ha ?_
              rw [upd_b (by omega), upd_a, ex, clamp_n (by omega), clamp_n (by omega)]; omega
          rcases hc with ⟨-, rfl, -⟩ | ⟨-, h2⟩
          · exact hl
          · exact Nat.lt_trans hl h2
    · rw [if_neg ht, if_pos rfl, nI_1]
      refine ⟨(p, fl), ⟨by omega, hNI, hc.imp (fun ⟨h1, h2, h3⟩ => ⟨h1, h2, fun c d hcd h5 h6 => ?_⟩) id⟩, rfl⟩
      by_cases q : c = a ∧ d = b
      · exact absurd (by rw [q.1, q.2] at hcd; exact hcd.2.2.2) ht
      · exact h3 c d hcd h5 (by omega)
theorem r_name45 {n : Nat} {T st p0 : Nat → Int32} (hn : n ≤ 24) (hT : TOK n st T) (h : NI n st (Tie n T) p0) : ∃ q, jX7_name_L45 (nI n) T FU p0 0 0 = some q ∧ NJ n st (Tie n T) p0 n 0 q.1 q.2 := by
  refine itI0 (s0 := (p0, (0 : Int32))) (fun f (x : (Nat → Int32) × Int32) v => jX7_name_L45 (nI n) T f x.1 x.2 v) n (fun a x => NJ n st (Tie n T) p0 a 0 x.1 x.2) (fun q => NJ n st (Tie n T) p0 n 0 q.1 q.2) (by omega) ⟨h, Or.inl ⟨rfl, rfl, fun c d _ _ q => by omega⟩⟩ (fun f x hx => ?_) (fun f a x ha hx => ?_)
  · exact ⟨x, by rw [jX7_name_L45, if_pos (Int32.le_refl _)], hx⟩
  · obtain ⟨p, fl⟩ := x
    obtain ⟨q, hq, hJ⟩ := r_name57 (p0 := p0) hn hT ha p fl ⟨hx.1, hx.2.imp (fun ⟨h1, h2, h3⟩ => ⟨h1, h2, fun c d hcd h5 h6 => h3 c d hcd h5 (by omega)⟩) id⟩
    refine ⟨q, ⟨hJ.1, hJ.2.imp (fun ⟨h1, h2, h3⟩ => ⟨h1, h2, fun c d hcd h5 h6 => h3 c d hcd h5 (by have := hcd.2.1; omega)⟩) id⟩, ?_⟩
    dsimp only
    rw [jX7_name_L45, if_neg (fun q => by have := (nI_leI (by omega) (by omega)).mp q; omega), nI_1, hq, bnd_n]
theorem r_name37 {n : Nat} {T st : Nat → Int32} (hn : n ≤ 24) (hT : TOK n st T) : ∀ (f : Nat) (p : Nat → Int32), NI n st (Tie n T) p → ms n p + 1 < f → ∃ q, jX7_name_L37 (nI n) T f p 1 = some q ∧ POK n st (Tie n T) q := by
  intro f
  induction f with
  | zero => intro p _ h; omega
  | succ f ih =>
    intro p hp hf
    rw [jX7_name_L37, if_neg one_ne]
    obtain ⟨⟨q, fl⟩, hq, hJ⟩ := r_name45 hn hT hp
    rw [hq, bnd_n]
    obtain ⟨hNI, ⟨rfl, rfl, h3⟩ | ⟨rfl, h2⟩⟩ := hJ
    · dsimp only at hNI h3 ⊢
      cases f with
      | zero => omega
      | succ f =>
        rw [jX7_name_L37, if_pos rfl]
        refine ⟨q, rfl, hNI.1, fun a b hab => ?_, hNI.2⟩
        have h4 := hab
        obtain ⟨h5, h6, h7, -⟩ := hab
        by_cases w : a < b
        · exact h3 a b h4 w (by omega)
        · exact (h3 b a (Tie_symm _ _ h4) (by omega) (by omega)).symm
    · exact ih q hNI (by dsimp only at h2; omega)
theorem r_name {n : Nat} {tb T st p : Nat → Int32} (hn : n ≤ 24) (hs : ∀ j, j < n → tb (5 * j + 2) = st j) (hT : TOK n st T) : ∃ q, jX7_name (nI n) tb T p = some q ∧ POK n st (Tie n T) q := by
  unfold jX7_name
  rw [r_name0 hn hs, bnd_n]
  have h1 : ms n (fun i => if i < n then (if st i = 0 then nI i else -1) else p i) ≤ ns (fun _ => 24) n := ns_le (fun j hj => by
    dsimp only
    rw [if_pos hj]
    split
    · rw [clamp_n (by omega)]; omega
    · decide)
  have h2 : ∀ k, ns (fun _ => 24) k = 24 * k := fun k => by
    induction k with
    | zero => rfl
    | succ k ih => rw [ns, ih]; omega
  rw [h2] at h1
  obtain ⟨q, hq, hP⟩ := r_name37 hn hT FU (fun i => if i < n then (if st i = 0 then nI i else -1) else p i) ⟨fun j hj h0 => ⟨j, Nat.le_refl _, by dsimp only; rw [if_pos hj, if_pos h0], conn_refl⟩, fun j hj h0 => by dsimp only; rw [if_pos hj, if_neg h0]⟩ (by unfold FU; omega)
  exact ⟨q, bnd_i hq rfl, hP⟩
