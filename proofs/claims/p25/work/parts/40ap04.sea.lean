/-! the sea -/
theorem c_isSea {x y : Nat} (hx : x < 30) (hy : y < 20) : jX6_isSea (nI x) (nI y) = some 1 := by
  unfold jX6_isSea
  rw [if_neg (n_neg (by omega)), if_neg (fun q => by have := (nI_leI (a := 30) (by omega) (by omega)).mp q; omega), if_neg (n_neg (by omega)), if_neg (fun q => by have := (nI_leI (a := 20) (by omega) (by omega)).mp q; omega), chkZ_b]
theorem c_at {C : Nat → Int32} {x y : Nat} (hx : x < 30) (hy : y < 20) : jX4_at C (nI x) (nI y) = some (C (x + 30 * y)) := by
  unfold jX4_at
  rw [c_isSea hx hy, bnd_n, if_neg (by decide)]
  rw [show (30 : Int32) = nI 30 from rfl, pk_mul, nI_add, chk_n (by omega) (by omega), rd_n (by omega)]
/-- the place lies in the water k -/
def cov (Wt : Nat → Int32) (k x y : Nat) : Bool := decide ((Wt (7 * k)).toNatClampNeg ≤ x ∧ x < (Wt (7 * k)).toNatClampNeg + (Wt (7 * k + 2)).toNatClampNeg ∧ (Wt (7 * k + 1)).toNatClampNeg ≤ y ∧ y < (Wt (7 * k + 1)).toNatClampNeg + (Wt (7 * k + 3)).toNatClampNeg)
def wA (Wt : Nat → Int32) (x y : Nat) : Nat → Option Nat
  | 0 => none
  | k + 1 => if cov Wt k x y = true then some k else wA Wt x y k
theorem wA_lt {Wt : Nat → Int32} {x y k : Nat} : ∀ {w : Nat}, wA Wt x y w = some k → k < w
  | 0, h => by cases h
  | w + 1, h => by
    rw [wA] at h
    split at h
    · obtain rfl := Option.some.inj h; omega
    · have := wA_lt h; omega
def oI (o : Option Nat) : Int32 := match o with
  | some k => nI k
  | none => -1
/-- what the sea says at a place: 0 dx, 1 dy, 2 the waves -/
def gS (Wt : Nat → Int32) (w what x y : Nat) : Int32 := match wA Wt x y w with
  | some k => Wt (7 * k + 4 + what)
  | none => 0
def WOK (w : Nat) (Wt : Nat → Int32) : Prop := w ≤ 8 ∧ ∀ k, k < w → ∃ x0 y0 wd dp v : Nat, Wt (7 * k) = nI x0 ∧ Wt (7 * k + 1) = nI y0 ∧ Wt (7 * k + 2) = nI wd ∧ Wt (7 * k + 3) = nI dp ∧ 1 ≤ wd ∧ 1 ≤ dp ∧ x0 + wd ≤ 30 ∧ y0 + dp ≤ 20 ∧ Wt (7 * k + 6) = nI v ∧ v ≤ 20
theorem r_isIn {a lo hi : Int32} : jX7_isIn a lo hi = some (if a < lo then 0 else if hi < a then 0 else 1) := by
  unfold jX7_isIn
  by_cases h1 : a < lo
  · simp only [h1, if_true, chkZ_a]
  · by_cases h2 : hi < a
    · simp only [h1, h2, if_true, if_false, chkZ_a]
    · simp only [h1, h2, if_false, chkZ_b]
theorem r_isInW {x x0 wd : Nat} (hx : x < 600) (h0 : x0 < 600) (h1 : 1 ≤ wd) (hw : wd < 600) : jX7_isIn (nI x - nI x0) 0 (nI wd - 1) = some (if x0 ≤ x ∧ x < x0 + wd then 1 else 0) := by
  rw [r_isIn, show nI wd - 1 = nI (wd - 1) from by rw [l1, pk_sub h1]]
  by_cases h : x0 ≤ x
  · rw [pk_sub h, if_neg (n_neg (by omega))]
    by_cases h2 : x < x0 + wd
    · rw [if_neg (fun q => by have := (nI_ltI (by omega) (by omega)).mp q; omega), if_pos ⟨h, h2⟩]
    · rw [if_pos ((nI_ltI (by omega) (by omega)).mpr (by omega)), if_neg (fun q => h2 q.2)]
  · rw [if_pos (pk_sneg (by omega) (by omega)), if_neg (fun q => h q.1)]
theorem r_waterL {w : Nat} {Wt : Nat → Int32} {x y : Nat} (hW : WOK w Wt) (hx : x < 30) (hy : y < 20) : ∀ k g, k ≤ w → k < g → jX7_waterAt_L7 Wt (nI x) (nI y) g (nI k - 1) = some (match wA Wt x y k with | some i => .inl (nI i) | none => .inr ()) := by
  intro k
  induction k with
  | zero =>
    intro g _ hg
    cases g with
    | zero => omega
    | succ g => rw [jX7_waterAt_L7, if_pos (by decide)]; rfl
  | succ k ih =>
    intro g hk hg
    cases g with
    | zero => omega
    | succ g =>
      obtain ⟨x0, y0, wd, dp, v, e0, e1, e2, e3, h1, h2, h3, h4, -, -⟩ := hW.2 k (by omega)
      have hw8 := hW.1
      have c0 : (Wt (7 * k)).toNatClampNeg = x0 := by rw [e0]; exact clamp_n (by omega)
      have c1 : (Wt (7 * k + 1)).toNatClampNeg = y0 := by rw [e1]; exact clamp_n (by omega)
      have c2 : (Wt (7 * k + 2)).toNatClampNeg = wd := by rw [e2]; exact clamp_n (by omega)
      have c3 : (Wt (7 * k + 3)).toNatClampNeg = dp := by rw [e3]; exact clamp_n (by omega)
      have e : nI (k + 1) - 1 = nI k := by rw [l1, pk_sub (by omega)]; rfl
      rw [e, jX7_waterAt_L7, if_neg (n_neg (by omega))]
      rw [show (7 : Int32) = nI 7 from rfl, pk_mul, show nI (7 * k) + 2 = nI (7 * k + 2) from nI_add _ 2, show nI (7 * k) + 1 = nI (7 * k + 1) from nI_add _ 1, show nI (7 * k) + 3 = nI (7 * k + 3) from nI_add _ 3]
      rw [chk_n (by omega) (by omega), chk_n (by omega) (by omega), rd_n (by omega), rd_n (by omega), e0, e2, r_isInW (by omega) (by omega) h1 (by omega), bnd_n]
      rw [wA]
      have hn : nI k + (-1) = nI k - 1 := (Int32.sub_eq_add_neg (a := nI k) (b := 1)).symm
      by_cases q : x0 ≤ x ∧ x < x0 + wd
      · rw [if_pos q, if_neg (by decide), chk_n (by omega) (by omega), chk_n (by omega) (by omega), rd_n (by omega), rd_n (by omega), e1, e3, r_isInW (by omega) (by omega) h2 (by omega), bnd_n]
        by_cases q2 : y0 ≤ y ∧ y < y0 + dp
        · rw [if_pos q2, if_neg (by decide), if_pos]
          unfold cov
          rw [c0, c1, c2, c3]
          exact decide_eq_true ⟨q.1, q.2, q2.1, q2.2⟩
        · rw [if_neg q2, if_pos rfl, hn, ih g (by omega) (by omega), if_neg]
          unfold cov
          rw [c0, c1, c2, c3]
          exact fun z => q2 (of_decide_eq_true z).2.2
      · rw [if_neg q, if_pos rfl, hn, ih g (by omega) (by omega), if_neg]
        unfold cov
        rw [c0, c1, c2, c3]
        exact fun z => q ⟨(of_decide_eq_true z).1, (of_decide_eq_true z).2.1⟩
theorem r_waterAt {w : Nat} {Wt : Nat → Int32} {x y : Nat} (hW : WOK w Wt) (hx : x < 30) (hy : y < 20) : jX7_waterAt (nI w) Wt (nI x) (nI y) = some (oI (wA Wt x y w)) := by
  refine bnd_i (r_waterL hW hx hy w FU (Nat.le_refl _) (by have := hW.1; unfold FU; omega)) ?_
  cases wA Wt x y w <;> rfl
theorem r_seaTold {w : Nat} {Wt : Nat → Int32} {x y what : Nat} (hW : WOK w Wt) (hx : x < 30) (hy : y < 20) (h : what < 3) : jX7_seaTold (nI w) Wt (nI x) (nI y) (nI what) = some (gS Wt w what x y) := by
  have h8 := hW.1
  unfold jX7_seaTold gS
  rw [r_waterAt hW hx hy, bnd_n]
  cases e : wA Wt x y w with
  | none => rfl
  | some k =>
    have := wA_lt e
    rw [oI, if_neg (n_m1 (by omega)), bnd_n]
    rw [show (7 : Int32) = nI 7 from rfl, pk_mul, show nI (7 * k) + 4 = nI (7 * k + 4) from nI_add _ 4, nI_add, chk_n (by omega) (by omega), rd_n (by omega)]
/-- the class and the table say the same of the sea -/
def SOK (w : Nat) (dx dy wv C Wt : Nat → Int32) : Prop := WOK w Wt ∧ (∀ x y, x < 30 → y < 20 → C (x + 30 * y) = oI (wA Wt x y w)) ∧ ∀ k, k < w → dx k = Wt (7 * k + 4) ∧ dy k = Wt (7 * k + 5) ∧ wv k = Wt (7 * k + 6)
theorem c_whas {w k : Nat} (hw : w ≤ 8) (hk : k < w) : jX4_has (nI w) (nI k) = some 1 := by
  unfold jX4_has
  rw [if_neg (n_neg (by omega)), if_neg (fun q => by have := (nI_leI (by omega) (by omega)).mp q; omega), chkZ_b]
theorem c_whas_m1 {w : Int32} : jX4_has w (-1) = some 0 := by
  unfold jX4_has
  rw [if_pos m1_neg, chkZ_a]
theorem c_dxOf {w : Nat} {dx dy wv C Wt : Nat → Int32} {x y : Nat} (S : SOK w dx dy wv C Wt) (hx : x < 30) (hy : y < 20) : jX4_dxOf (nI w) dx (C (x + 30 * y)) = some (gS Wt w 0 x y) := by
  have h8 := S.1.1
  unfold jX4_dxOf gS
  rw [S.2.1 x y hx hy]
  cases e : wA Wt x y w with
  | none => rw [oI, c_whas_m1]; rfl
  | some k =>
    have := wA_lt e
    rw [oI, c_whas h8 this, bnd_n, if_neg (by decide), chk_n (by omega) (by omega), rd_n (by omega), (S.2.2 k this).1]
theorem c_dyOf {w : Nat} {dx dy wv C Wt : Nat → Int32} {x y : Nat} (S : SOK w dx dy wv C Wt) (hx : x < 30) (hy : y < 20) : jX4_dyOf (nI w) dy (C (x + 30 * y)) = some (gS Wt w 1 x y) := by
  have h8 := S.1.1
  unfold jX4_dyOf gS
  rw [S.2.1 x y hx hy]
  cases e : wA Wt x y w with
  | none => rw [oI, c_whas_m1]; rfl
  | some k =>
    have := wA_lt e
    rw [oI, c_whas h8 this, bnd_n, if_neg (by decide), chk_n (by omega) (by omega), rd_n (by omega), (S.2.2 k this).2.1]
theorem c_waveOf {w : Nat} {dx dy wv C Wt : Nat → Int32} {x y : Nat} (S : SOK w dx dy wv C Wt) (hx : x < 30) (hy : y < 20) : jX4_waveOf (nI w) wv (C (x + 30 * y)) = some (gS Wt w 2 x y) := by
  have h8 := S.1.1
  unfold jX4_waveOf gS
  rw [S.2.1 x y hx hy]
  cases e : wA Wt x y w with
  | none => rw [oI, c_whas_m1]; rfl
  | some k =>
    have := wA_lt e
    rw [oI, c_whas h8 this, bnd_n, if_neg (by decide), chk_n (by omega) (by omega), rd_n (by omega), (S.2.2 k this).2.2]
theorem gS_wave {w : Nat} {Wt : Nat → Int32} {x y : Nat} (hW : WOK w Wt) : ∃ v, v ≤ 20 ∧ gS Wt w 2 x y = nI v := by
  unfold gS
  cases e : wA Wt x y w with
  | none => exact ⟨0, by omega, rfl⟩
  | some k =>
    obtain ⟨x0, y0, wd, dp, v, -, -, -, -, -, -, -, -, h, h'⟩ := hW.2 k (wA_lt e)
    exact ⟨v, h', h⟩
/-- a loop that begins further on -/
theorem itFk {σ τ : Type} {r : τ} (L : Nat → σ → Int32 → Option τ) (F : Nat → σ) (K N : Nat) (h0 : ∀ f, L (f + 1) (F N) (nI N) = some r)
    (h1 : ∀ f j, K ≤ j → j < N → L (f + 1) (F j) (nI j) = L f (F (j + 1)) (nI (j + 1))) : ∀ f k, K ≤ k → k ≤ N → N < f + k → L f (F k) (nI k) = some r := by
  intro f
  induction f with
  | zero => intro k _ h h'; omega
  | succ f ih =>
    intro k hK h h'
    by_cases hk : k = N
    · subst hk; exact h0 f
    · rw [h1 f k hK (by omega)]; exact ih (k + 1) (by omega) (by omega) (by omega)
/-- what cover writes -/
theorem c_coverR {w x wd r : Nat} {C : Nat → Int32} (hw : w ≤ 8) (hx : x + wd ≤ 30) (hr : r < 20) : jX4_cover_L15 (nI w) (nI x) (nI wd) (nI r) FU C (nI x) = some (fun q => if q / 30 = r ∧ x ≤ q % 30 ∧ q % 30 < x + wd then nI w else C q) := by
  have e0 : (fun q => if q / 30 = r ∧ x ≤ q % 30 ∧ q % 30 < x then nI w else C q) = C := by
    funext q; rw [if_neg (by omega)]
  have := itFk (r := fun q => if q / 30 = r ∧ x ≤ q % 30 ∧ q % 30 < x + wd then nI w else C q) (fun f s v => jX4_cover_L15 (nI w) (nI x) (nI wd) (nI r) f s v) (fun j q => if q / 30 = r ∧ x ≤ q % 30 ∧ q % 30 < j then nI w else C q) x (x + wd) ?_ ?_ FU x
  · rw [e0] at this
    exact this (by omega) (by omega) (by unfold FU; omega)
  · intro f
    rw [jX4_cover_L15, nI_add, if_pos (by rw [nI_leI (by omega) (by omega)]; omega)]
  · intro f j hjx hj
    rw [jX4_cover_L15, nI_add, if_neg (by rw [nI_leI (by omega) (by omega)]; omega), c_isSea (by omega) hr, bnd_n, if_neg (by decide)]
    rw [show (30 : Int32) = nI 30 from rfl, pk_mul, nI_add, chk_n (by omega) (by omega), wr_n (by omega), nI_1]
    congr 1
    funext q
    unfold upd
    dsimp only
    by_cases h : q = j + 30 * r
    · rw [if_pos h, if_pos (by omega)]
    · rw [if_neg h]
      by_cases h2 : q / 30 = r ∧ x ≤ q % 30 ∧ q % 30 < j
      · rw [if_pos h2, if_pos (by omega)]
      · rw [if_neg h2, if_neg (by omega)]
theorem c_cover {w x y wd dp : Nat} {C : Nat → Int32} (hw : w ≤ 8) (hx : x + wd ≤ 30) (hy : y + dp ≤ 20) : jX4_cover (nI w) C (nI x) (nI y) (nI wd) (nI dp) = some (fun q => if y ≤ q / 30 ∧ q / 30 < y + dp ∧ x ≤ q % 30 ∧ q % 30 < x + wd then nI w else C q) := by
  have e0 : (fun q => if y ≤ q / 30 ∧ q / 30 < y ∧ x ≤ q % 30 ∧ q % 30 < x + wd then nI w else C q) = C := by
    funext q; rw [if_neg (by omega)]
  have := itFk (r := fun q => if y ≤ q / 30 ∧ q / 30 < y + dp ∧ x ≤ q % 30 ∧ q % 30 < x + wd then nI w else C q) (fun f s v => jX4_cover_L3 (nI w) (nI x) (nI y) (nI wd) (nI dp) f s v) (fun j q => if y ≤ q / 30 ∧ q / 30 < j ∧ x ≤ q % 30 ∧ q % 30 < x + wd then nI w else C q) y (y + dp) ?_ ?_ FU y
  · rw [e0] at this
    exact bnd_i (this (by omega) (by omega) (by unfold FU; omega)) rfl
  · intro f
    rw [jX4_cover_L3, nI_add, if_pos (by rw [nI_leI (by omega) (by omega)]; omega)]
  · intro f j hjx hj
    rw [jX4_cover_L3, nI_add, if_neg (by rw [nI_leI (by omega) (by omega)]; omega), c_coverR hw hx (by omega), bnd_n, nI_1]
    congr 1
    funext q
    by_cases h : q / 30 = j ∧ x ≤ q % 30 ∧ q % 30 < x + wd
    · rw [if_pos h, if_pos (by omega)]
    · rw [if_neg h]
      by_cases h2 : y ≤ q / 30 ∧ q / 30 < j ∧ x ≤ q % 30 ∧ q % 30 < x + wd
      · rw [if_pos h2, if_pos (by omega)]
      · rw [if_neg h2, if_neg (by omega)]
