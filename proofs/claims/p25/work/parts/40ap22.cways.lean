/-! the class counts ways that share no lashing -/
theorem c_fill {An : Nat} {f : Nat → Int32} {a : Int32} (h : An < 900) : jJ7_fill_53178 An f a = some (fun i => if i < An then a else f i) := by
  refine bnd_i (itF0 (fun g s v => jJ7_fill_53178_L5 An a (nI An) g s v) (fun j i => if i < j then a else f i) An (by omega) (by simp) (fun g => ?_) (fun g j hj => ?_)) rfl
  · rw [jJ7_fill_53178_L5, if_pos (Int32.le_refl _)]
  · rw [jJ7_fill_53178_L5, if_neg (fun q => by have := (nI_leI (by omega) (by omega)).mp q; omega), chk_n (by omega) (by omega), wr_n (by omega), nI_1]
    congr 1
    funext i
    unfold upd
    by_cases hi : i = j
    · subst hi; rw [if_pos rfl, if_pos (by omega)]
    · rw [if_neg hi]; simp only [p_lts hi]
def uI (z : Int) : Int32 := if z = 1 then 1 else if z = -1 then -1 else 0
theorem uI_1 {z : Int} (h : -1 ≤ z) (h' : z ≤ 1) : uI z = 1 ↔ z = 1 := by
  unfold uI
  by_cases h1 : z = 1
  · rw [if_pos h1]; exact ⟨fun _ => h1, fun _ => rfl⟩
  · rw [if_neg h1]
    by_cases h2 : z = -1
    · rw [if_pos h2]; exact ⟨fun q => absurd q (by decide), fun q => absurd q h1⟩
    · rw [if_neg h2]; exact ⟨fun q => absurd q (by decide), fun q => absurd q h1⟩
theorem uI_m {z : Int} (h : -1 ≤ z) (h' : z ≤ 1) : uI z = -1 ↔ z = -1 := by
  unfold uI
  by_cases h1 : z = 1
  · rw [if_pos h1]; exact ⟨fun q => absurd q (by decide), fun q => by omega⟩
  · rw [if_neg h1]
    by_cases h2 : z = -1
    · rw [if_pos h2]; exact ⟨fun _ => h2, fun _ => rfl⟩
    · rw [if_neg h2]; exact ⟨fun q => absurd q (by decide), fun q => absurd q h2⟩
theorem uI_up {z : Int} (h : -1 ≤ z) (h' : z ≤ 0) : uI z + 1 = uI (z + 1) := by
  rcases (by omega : z = -1 ∨ z = 0) with rfl | rfl <;> decide
theorem uI_dn {z : Int} (h : 0 ≤ z) (h' : z ≤ 1) : uI z + (-1) = uI (z - 1) := by
  rcases (by omega : z = 1 ∨ z = 0) with rfl | rfl <;> decide
def UF (m : Nat) (κ : Nat → Nat) (F : Nat → Nat → Int) (us : Nat → Int32) : Prop := ∀ i, i < m → us i = uI (F (κ i / 24) (κ i % 24))
def CBr (n m a known : Nat) (κ L P : Nat → Nat) (Rd : Nat → Bool) (cb re : Nat → Int32) : Prop :=
  (∀ j, j < known → re j = nI (L j)) ∧ (∀ x, x < n → Rd x = false → cb x = -1) ∧ cb a = -1 ∧ ∀ x, Rd x = true → x ≠ a → ∃ i, i < m ∧ cb x = nI i ∧ κ i = pr (P x) x
section CWays
variable {n m a b : Nat} {f s t u T U st us cb re : Nat → Int32} {κ : Nat → Nat} {F : Nat → Nat → Int} {v : Int}
theorem Q_pair (hn : n ≤ 24) (Q : QOK m f s t u κ T U) (hT : TOK n st T) {i : Nat} (hi : i < m) : ∃ p q, κ i = 24 * p + q ∧ κ i / 24 = p ∧ κ i % 24 = q ∧ p < q ∧ q < n ∧ f i = nI p ∧ s i = nI q ∧ Tie n T p q ∧ κ i = pr p q := by
  have := Q.2.1.1 i hi
  have h0 := of_decide_eq_true this.2
  obtain ⟨p, q, h1, h2, h3, -⟩ := hT _ this.1 (i_pos_ne h0)
  have d1 : κ i / 24 = p := by omega
  have d2 : κ i % 24 = q := by omega
  obtain ⟨r1, r2, -, -⟩ := Q.2.2 i hi
  exact ⟨p, q, h1, d1, d2, h2, h3, by rw [r1, d1], by rw [r2, d2], ⟨by omega, h3, by omega, by rw [pr_of h2, ← h1]; exact h0⟩, by rw [pr_of h2]; exact h1⟩
theorem Q_idx (hn : n ≤ 24) (Q : QOK m f s t u κ T U) {x y : Nat} (h : Tie n T x y) : ∃ i, i < m ∧ κ i = pr x y :=
  Q.2.1.2.2 _ (pr_lt (by have := h.1; omega) (by have := h.2.1; omega)) (decide_eq_true h.2.2.2)
theorem Q_inj (Q : QOK m f s t u κ T U) {i j : Nat} (hi : i < m) (hj : j < m) (h : κ i = κ j) : i = j := by
  rcases Nat.lt_trichotomy i j with q | q | q
  · have := Q.2.1.2.1 i j q hj; omega
  · exact q
  · have := Q.2.1.2.1 j i q hi; omega
/-- a lashing seen from one of its barrels -/
theorem c_dir (hn : n ≤ 24) (Q : QOK m f s t u κ T U) (hT : TOK n st T) {i x y : Nat} (hi : i < m) (h : κ i = pr y x) (hy : y < n) (hx : x < n) (hxy : y ≠ x) :
    ∃ d, jX5_direction f (nI i) (nI y) = some d ∧ jX2_leadsTo f s (nI i) (nI y) = some (nI x) ∧ ((d = 1 ∧ y < x ∧ κ i / 24 = y ∧ κ i % 24 = x) ∨ (d = -1 ∧ x < y ∧ κ i / 24 = x ∧ κ i % 24 = y)) := by
  have hm := Q.1
  obtain ⟨p, q, h1, d1, d2, hpq, hqn, fp, sq, -, -⟩ := Q_pair hn Q hT hi
  rcases pr_cases (h.symm.trans h1) hpq (by omega) (by omega) (by omega) with ⟨rfl, rfl⟩ | ⟨rfl, rfl⟩
  · refine ⟨1, ?_, ?_, Or.inl ⟨rfl, hpq, d1, d2⟩⟩
    · unfold jX5_direction
      rw [chk_n (by omega) (by omega), rd_n (by omega), fp, if_pos rfl]
    · unfold jX2_leadsTo
      rw [chk_n (by omega) (by omega), rd_n (by omega), fp, if_pos rfl, chk_n (by omega) (by omega), rd_n (by omega), sq]
  · refine ⟨-1, ?_, ?_, Or.inr ⟨rfl, hpq, d1, d2⟩⟩
    · unfold jX5_direction
      rw [chk_n (by omega) (by omega), rd_n (by omega), fp, if_neg (fun z => hxy ((nI_eq (by omega) (by omega)).mp z).symm)]
    · unfold jX2_leadsTo
      rw [chk_n (by omega) (by omega), rd_n (by omega), rd_n (by omega), fp, if_neg (fun z => hxy ((nI_eq (by omega) (by omega)).mp z).symm), chk_n (by omega) (by omega), sq, if_pos rfl, chk_n (by omega) (by omega)]
theorem c_dir_no (hn : n ≤ 24) (Q : QOK m f s t u κ T U) (hT : TOK n st T) {i y : Nat} (hi : i < m) (hy : y < n) (h : ∀ x, x < n → x ≠ y → κ i ≠ pr y x) : jX2_leadsTo f s (nI i) (nI y) = some (-1) := by
  have hm := Q.1
  obtain ⟨p, q, h1, d1, d2, hpq, hqn, fp, sq, -, hk⟩ := Q_pair hn Q hT hi
  unfold jX2_leadsTo
  rw [chk_n (by omega) (by omega), rd_n (by omega), rd_n (by omega), fp, if_neg (fun z => ?_), chk_n (by omega) (by omega), sq, if_neg (fun z => ?_)]
  · obtain rfl := (nI_eq (by omega) (by omega)).mp z
    exact h p (by omega) (by omega) (by rw [pr_comm]; exact hk)
  · obtain rfl := (nI_eq (by omega) (by omega)).mp z
    exact h q hqn (by omega) hk
theorem F_rng (h1 : ∀ x y, F x y = - F y x) (h2 : ∀ x y, F x y ≤ cap n T x y) (x y : Nat) : -1 ≤ F x y ∧ F x y ≤ 1 := by
  have a1 := h2 x y
  have a2 := h2 y x
  have a3 := h1 x y
  have c1 := cap_le (n := n) (T := T) (x := x) (y := y)
  have c2 := cap_le (n := n) (T := T) (x := y) (y := x)
  omega
theorem UF_dir (h1 : ∀ x y, F x y = - F y x) (h2 : ∀ x y, F x y ≤ cap n T x y) (hU : UF m κ F us) {i x y : Nat} {d : Int32} (hi : i < m) (hd : (d = 1 ∧ y < x ∧ κ i / 24 = y ∧ κ i % 24 = x) ∨ (d = -1 ∧ x < y ∧ κ i / 24 = x ∧ κ i % 24 = y)) : us i = d ↔ F y x = 1 := by
  rw [hU i hi]
  rcases hd with ⟨rfl, -, e1, e2⟩ | ⟨rfl, -, e1, e2⟩
  · rw [e1, e2]
    have := F_rng h1 h2 y x
    exact uI_1 this.1 this.2
  · rw [e1, e2]
    have := F_rng h1 h2 x y
    rw [uI_m this.1 this.2, h1 y x]; omega
theorem c_reachFrom (hn : n ≤ 24) (Q : QOK m f s t u κ T U) (hT : TOK n st T) (h1 : ∀ x y, F x y = - F y x) (h2 : ∀ x y, F x y ≤ cap n T x y) (hU : UF m κ F us) {known0 y : Nat} {L0 : Nat → Nat} {Rd0 : Nat → Bool} {rk0 P0 : Nat → Nat} (ha : a < n) (hB : BS n a known0 L0 Rd0 rk0 P0 (rsd n T F)) (hC : CBr n m a known0 κ L0 P0 Rd0 cb re) (hy : Rd0 y = true) :
    ∃ known L Rd rk P cb' re', jX5_reachFrom us cb re (nI m) f s (nI y) (nI a) (nI known0) = some (nI known, cb', re') ∧ BS n a known L Rd rk P (rsd n T F) ∧ CBr n m a known κ L P Rd cb' re' ∧ (∀ x, Rd0 x = true → Rd x = true) ∧ (∀ j, j < known0 → L j = L0 j) ∧ known0 ≤ known ∧ ∀ x, tbb n T y x = true → F y x ≤ 0 → Rd x = true := by
  have hm := Q.1
  have hyn := (hB.2.1 y hy).1
  refine (itI0 (s0 := (cb, re, nI known0)) (fun g (z : (Nat → Int32) × (Nat → Int32) × Int32) w => jX5_reachFrom_L7 us (nI m) f s (nI y) (nI a) g z.1 z.2.1 z.2.2 w) m
    (fun i z => ∃ known L Rd rk P, z.2.2 = nI known ∧ BS n a known L Rd rk P (rsd n T F) ∧ CBr n m a known κ L P Rd z.1 z.2.1 ∧ (∀ x, Rd0 x = true → Rd x = true) ∧ (∀ j, j < known0 → L j = L0 j) ∧ known0 ≤ known ∧ ∀ j x, j < i → κ j = pr y x → x < n → x ≠ y → F y x ≤ 0 → Rd x = true)
    (fun z => ∃ known L Rd rk P, z.2.2 = nI known ∧ BS n a known L Rd rk P (rsd n T F) ∧ CBr n m a known κ L P Rd z.1 z.2.1 ∧ (∀ x, Rd0 x = true → Rd x = true) ∧ (∀ j, j < known0 → L j = L0 j) ∧ known0 ≤ known ∧ ∀ j x, j < m → κ j = pr y x → x < n → x ≠ y → F y x ≤ 0 → Rd x = true) (by omega)
    ⟨known0, L0, Rd0, rk0, P0, rfl, hB, hC, fun _ h => h, fun _ _ => rfl, Nat.le_refl _, fun j x hj => by omega⟩ (fun g z hz => ⟨z, by rw [jX5_reachFrom_L7, if_pos (Int32.le_refl _)], hz⟩) (fun g i z hi hz => ?_)).elim
    (fun r ⟨hr, known, L, Rd, rk, P, e, g1, g2, g3, g4, g5, g6⟩ => ⟨known, L, Rd, rk, P, r.1, r.2.1, ?_, g1, g2, g3, g4, g5, fun x ht hF => ?_⟩)
  · obtain ⟨z1, z2, z3⟩ := z
    obtain ⟨known, L, Rd, rk, P, e, g1, g2, g3, g4, g5, g6⟩ := hz
    dsimp only at e g2 ⊢
    subst e
    have hk := BS_le g1
    rw [jX5_reachFrom_L7, if_neg (fun q => by have := (nI_leI (by omega) (by omega)).mp q; omega), nI_1]
    have stay : (∀ x, κ i = pr y x → x < n → x ≠ y → F y x ≤ 0 → Rd x = true) → ∃ z' : (Nat → Int32) × (Nat → Int32) × Int32, (∃ known L Rd rk P, z'.2.2 = nI known ∧ BS n a known L Rd rk P (rsd n T F) ∧ CBr n m a known κ L P Rd z'.1 z'.2.1 ∧ (∀ x, Rd0 x = true → Rd x = true) ∧ (∀ j, j < known0 → L j = L0 j) ∧ known0 ≤ known ∧ ∀ j x, j < i + 1 → κ j = pr y x → x < n → x ≠ y → F y x ≤ 0 → Rd x = true) ∧ jX5_reachFrom_L7 us (nI m) f s (nI y) (nI a) g z1 z2 (nI known) (nI (i + 1)) = jX5_reachFrom_L7 us (nI m) f s (nI y) (nI a) g z'.1 z'.2.1 z'.2.2 (nI (i + 1)) := fun hs => by
      refine ⟨(z1, z2, nI known), ⟨known, L, Rd, rk, P, rfl, g1, g2, g3, g4, g5, fun j x hj => ?_⟩, rfl⟩
      by_cases q : j = i
      · rw [q]; exact hs x
      · exact g6 j x (by omega)
    by_cases hx : ∃ x, x < n ∧ x ≠ y ∧ κ i = pr y x
    · obtain ⟨x, hxn, hxy, hkx⟩ := hx
      have uniq : ∀ x', κ i = pr y x' → x' < n → x' ≠ y → x' = x := fun x' e1 e2 e3 => by
        have e4 : pr y x = pr y x' := hkx.symm.trans e1
        unfold pr at e4
        omega
      obtain ⟨d, hd, hl, hdd⟩ := c_dir hn Q hT hi hkx hyn hxn (fun z => hxy z.symm)
      rw [hl, bnd_n, if_neg (n_neg (by omega))]
      by_cases hxa : x = a
      · subst hxa
        rw [if_pos rfl]
        exact stay (fun x' e1 e2 e3 _ => by rw [uniq x' e1 e2 e3]; exact g1.1)
      · rw [if_neg (fun z => hxa ((nI_eq (by omega) (by omega)).mp z)), chk_n (by omega) (by omega), rd_n (by omega)]
        cases hR : Rd x with
        | true =>
          obtain ⟨i', hi', e', -⟩ := g2.2.2.2 x hR hxa
          rw [e', if_pos (n_nonneg (by omega))]
          exact stay (fun x' e1 e2 e3 _ => by rw [uniq x' e1 e2 e3]; exact hR)
        | false =>
          rw [g2.2.1 x hxn hR, if_neg (by decide), chk_n (by omega) (by omega), hd, bnd_n, rd_n (by omega)]
          by_cases hu : us i = d
          · rw [if_pos hu]
            have hF := (UF_dir h1 h2 hU hi hdd).mp hu
            exact stay (fun x' e1 e2 e3 hle => by rw [uniq x' e1 e2 e3, hF] at hle; exact absurd hle (by decide))
          · rw [if_neg hu]
            have hF : ¬ F y x = 1 := fun z => hu ((UF_dir h1 h2 hU hi hdd).mpr z)
            have hF2 := F_rng h1 h2 y x
            have room := BS_room g1 hxn hR
            obtain ⟨p, q, -, -, -, hpq, hqn, -, -, hpt, hkpq⟩ := Q_pair hn Q hT hi
            have htie : Tie n T y x := by
              refine ⟨hyn, hxn, fun z => hxy z.symm, ?_⟩
              rw [← hkx, hkpq]; exact hpt.2.2.2
            have yR := g3 y hy
            rw [if_neg (fun q => by have := (nI_leI (a := 24) (by omega) (by omega)).mp q; omega), chk_n (by omega) (by omega), chk_n (by omega) (by omega), wr_n (by omega), wr_n (by omega), nI_1]
            refine ⟨(upd z1 x (nI i), upd z2 known (nI x), nI (known + 1)), ⟨known + 1, un L known x, un Rd x true, un rk x known, un P x y, rfl, BS_add g1 hxn hR yR ⟨tb_iff.mpr htie, by omega⟩, ⟨fun j hj => ?_, fun x' hx' hR' => ?_, ?_, fun x' hR' hxa' => ?_⟩, fun x' h' => ?_, fun j hj => ?_, by omega, fun j x' hj e1 e2 e3 e4 => ?_⟩, rfl⟩
            · dsimp only
              by_cases q : j = known
              · subst q; rw [upd_a, un_a]
              · rw [upd_b q, un_b q]; exact g2.1 j (by omega)
            · dsimp only
              by_cases q : x' = x
              · rw [q, un_a] at hR'; exact absurd hR' (by decide)
              · rw [un_b q] at hR'
                rw [upd_b q]; exact g2.2.1 x' hx' hR'
            · dsimp only
              rw [upd_b (fun z => hxa z.symm)]; exact g2.2.2.1
            · dsimp only
              by_cases q : x' = x
              · subst q
                rw [upd_a, un_a]
                exact ⟨i, hi, rfl, hkx⟩
              · rw [un_b q] at hR'
                rw [upd_b q, un_b q]; exact g2.2.2.2 x' hR' hxa'
            · by_cases q : x' = x
              · rw [q, un_a]
              · rw [un_b q]; exact g3 x' h'
            · rw [un_b (by omega)]; exact g4 j hj
            · by_cases q : x' = x
              · rw [q, un_a]
              · rw [un_b q]
                by_cases q2 : j = i
                · subst q2
                  exact absurd (uniq x' e1 e2 e3) q
                · exact g6 j x' (by omega) e1 e2 e3 e4
    · rw [c_dir_no hn Q hT hi hyn (fun x e1 e2 e3 => hx ⟨x, e1, e2, e3⟩), bnd_n, if_pos m1_neg]
      exact stay (fun x e1 e2 e3 => absurd ⟨x, e2, e3, e1⟩ hx)
  · unfold jX5_reachFrom
    rw [hr, bnd_n, e]
  · have ht' := tb_iff.mp ht
    obtain ⟨i, hi, hk⟩ := Q_idx hn Q ht'
    exact g6 i x hi hk ht'.2.1 (fun z => ht'.2.2.1 z.symm) hF
theorem c_findL21 (hn : n ≤ 24) (Q : QOK m f s t u κ T U) (hT : TOK n st T) (h1 : ∀ x y, F x y = - F y x) (h2 : ∀ x y, F x y ≤ cap n T x y) (hU : UF m κ F us) (ha : a < n) (hb : b < n) (hab : a ≠ b) : ∀ (g i known0 : Nat) (L : Nat → Nat) (Rd : Nat → Bool) (rk P : Nat → Nat) (cb re : Nat → Int32), i ≤ known0 → 30 < g + i → BS n a known0 L Rd rk P (rsd n T F) → CBr n m a known0 κ L P Rd cb re → (∀ j, j < i → ∀ x, tbb n T (L j) x = true → F (L j) x ≤ 0 → Rd x = true) →
    ∃ known L Rd rk P cb' re', jX5_findWay_L21 us (nI m) f s (nI a) (nI b) g cb re (nI known0) (nI i) = some (cb', re') ∧ BS n a known L Rd rk P (rsd n T F) ∧ CBr n m a known κ L P Rd cb' re' ∧ (Rd b = true ∨ (Rd b = false ∧ ∀ x y, Rd x = true → tbb n T x y = true → F x y ≤ 0 → Rd y = true)) := by
  intro g
  induction g with
  | zero => intro i known0 L Rd rk P cb re hi hg hB; have := BS_le hB; omega
  | succ g ih =>
    intro i known0 L Rd rk P cb re hi hg hB hC hcl
    have hk := BS_le hB
    rw [jX5_findWay_L21]
    have done : i = known0 → Rd b = true ∨ (Rd b = false ∧ ∀ x y, Rd x = true → tbb n T x y = true → F x y ≤ 0 → Rd y = true) := fun e => by
      cases hR : Rd b with
      | true => exact Or.inl rfl
      | false =>
        refine Or.inr ⟨rfl, fun x y hx ht hF => ?_⟩
        obtain ⟨g1, g2, g3⟩ := hB.2.1 x hx
        exact hcl (rk x) (by omega) y (by rw [g3]; exact ht) (by rw [g3]; exact hF)
    by_cases he : known0 ≤ i
    · rw [if_pos ((nI_leI (by omega) (by omega)).mpr he)]
      exact ⟨known0, L, Rd, rk, P, cb, re, rfl, hB, hC, done (by omega)⟩
    · rw [if_neg (fun q => he ((nI_leI (by omega) (by omega)).mp q)), if_neg (fun q => by have := (nI_leI (a := 24) (by omega) (by omega)).mp q; omega), chk_n (by omega) (by omega), rd_n (by omega)]
      cases hR : Rd b with
      | true =>
        obtain ⟨i', hi', e', -⟩ := hC.2.2.2 b hR (fun z => hab z.symm)
        have hm := Q.1
        rw [e', if_pos (n_nonneg (by omega))]
        exact ⟨known0, L, Rd, rk, P, cb, re, rfl, hB, hC, Or.inl hR⟩
      | false =>
        obtain ⟨l1, l2⟩ := hB.2.2.1 i (by omega)
        rw [hC.2.1 b hb hR, if_neg (by decide), chk_n (by omega) (by omega), rd_n (by omega), hC.1 i (by omega)]
        obtain ⟨known, L', Rd', rk', P', cb', re', e1, g1, g2, g3, g4, g5, g6⟩ := c_reachFrom hn Q hT h1 h2 hU ha hB hC l1
        rw [e1, bnd_n, nI_1]
        refine ih (i + 1) known L' Rd' rk' P' cb' re' (by omega) (by omega) g1 g2 (fun j hj x ht hF => ?_)
        rw [g4 j (by omega)] at ht hF
        by_cases q : j = i
        · subst q; exact g6 x ht hF
        · exact g3 x (hcl j (by omega) x ht hF)
theorem c_findWay (hn : n ≤ 24) (Q : QOK m f s t u κ T U) (hT : TOK n st T) (h1 : ∀ x y, F x y = - F y x) (h2 : ∀ x y, F x y ≤ cap n T x y) (hU : UF m κ F us) (ha : a < n) (hb : b < n) (hab : a ≠ b) :
    ∃ known L Rd rk P cb' re' r, jX5_findWay us cb re (nI m) f s (nI a) (nI b) = some (r, cb', re') ∧ BS n a known L Rd rk P (rsd n T F) ∧ CBr n m a known κ L P Rd cb' re' ∧ ((r = 1 ∧ Rd b = true) ∨ (r = 0 ∧ Rd b = false ∧ ∀ x y, Rd x = true → tbb n T x y = true → F x y ≤ 0 → Rd y = true)) := by
  have z0 : (0 : Int32).toNatClampNeg = 0 := by decide
  obtain ⟨known, L, Rd, rk, P, cb', re', e, g1, g2, g3⟩ := c_findL21 (us := us) hn Q hT h1 h2 hU ha hb hab FU 0 1 (fun _ => a) (fun x => decide (x = a)) (fun _ => 0) (fun _ => a) (fun i => if i < 24 then -1 else cb i) (wr re 0 (nI a)) (by omega) (by unfold FU; omega) (BS_start ha rfl)
    ⟨fun j hj => by
      obtain rfl : j = 0 := by omega
      unfold wr; rw [z0, upd_a], fun x hx _ => if_pos (by omega), if_pos (by omega), fun x hx hne => absurd (of_decide_eq_true hx) hne⟩ (fun j hj => by omega)
  have hm := Q.1
  unfold jX5_findWay
  rw [c_fill (by omega), bnd_n, show chk 24 0 = chk (α := Int32 × (Nat → Int32) × (Nat → Int32)) 24 (nI 0) from rfl, chk_n (by omega) (by omega), show jX5_findWay_L21 us (nI m) f s (nI a) (nI b) FU (fun i => if i < 24 then -1 else cb i) (wr re 0 (nI a)) 1 0 = some (cb', re') from e, bnd_n, chk_n (by omega) (by omega), rd_n (by omega)]
  rcases g3 with hR | ⟨hR, hc⟩
  · obtain ⟨i', hi', e', -⟩ := g2.2.2.2 b hR (fun z => hab z.symm)
    dsimp only
    have hneg : ¬ cb' b < 0 := by rw [e']; exact n_neg (by omega)
    exact ⟨known, L, Rd, rk, P, cb', re', 1, by rw [if_neg hneg, chkZ_b], g1, g2, Or.inl ⟨rfl, hR⟩⟩
  · dsimp only
    have hneg : cb' b < 0 := by rw [g2.2.1 b hb hR]; exact m1_neg
    exact ⟨known, L, Rd, rk, P, cb', re', 0, by rw [if_pos hneg, chkZ_a], g1, g2, Or.inr ⟨rfl, hR, hc⟩⟩
theorem c_useL (hn : n ≤ 24) (Q : QOK m f s t u κ T U) (hT : TOK n st T) {F0 : Nat → Nat → Int} {known : Nat} {L : Nat → Nat} {Rd : Nat → Bool} {rk P : Nat → Nat} (ha : a < n) (hB : BS n a known L Rd rk P (rsd n T F0)) (hC : CBr n m a known κ L P Rd cb re) : ∀ (g c i : Nat) (F : Nat → Nat → Int) (us : Nat → Int32), Rd c = true → rk c + i < 24 → rk c < g → WK n T a b v F0 Rd rk c F → UF m κ F us →
    ∃ us' F', jX5_useWay_L6 cb f s (nI a) g us (nI c) (nI i) = some us' ∧ FL n T a b (v + 1) F' ∧ UF m κ F' us' := by
  intro g
  induction g with
  | zero => intro c i F us _ _ h; omega
  | succ g ih =>
    intro c i F us hc hi hg hW hU
    have hm := Q.1
    have hcn := (hB.2.1 c hc).1
    rw [jX5_useWay_L6, if_neg (fun q => by have := (nI_leI (a := 24) (by omega) (by omega)).mp q; omega), if_neg (n_neg (by omega))]
    by_cases hca : c = a
    · subst hca
      rw [if_pos rfl]
      exact ⟨us, F, rfl, WK_end hW, hU⟩
    · obtain ⟨w1, w2, w3, w4, w5, w6, w7⟩ := WK_step hn hB hW hc hca
      obtain ⟨i', hi', e', hk'⟩ := hC.2.2.2 c hc hca
      have hne := w5.2.2.1
      obtain ⟨d0, -, hl, -⟩ := c_dir hn Q hT (x := P c) (y := c) hi' (by rw [hk', pr_comm]) hcn w3 (fun z => hne z.symm)
      obtain ⟨d, hd, -, hdd⟩ := c_dir hn Q hT (x := c) (y := P c) hi' hk' w3 hcn hne
      rw [if_neg (fun z => hca ((nI_eq (by omega) (by omega)).mp z)), chk_n (by omega) (by omega), jn_n, rd_n (by omega), e', if_neg (n_neg (by omega)), hl, bnd_n]
      dsimp only
      rw [if_neg (n_neg (by omega)), chk_n (by omega) (by omega), hd, bnd_n, chk_n (by omega) (by omega), rd_n (by omega), wr_n (by omega), nI_1]
      refine ih (P c) (i + 1) (bump F (P c) c) (upd us i' (us i' + d)) w1 (by omega) (by omega) w7 (fun j hj => ?_)
      have hrng := F_rng hW.1 hW.2.1
      by_cases q : j = i'
      · subst q
        rw [upd_a, hU j hj]
        rcases hdd with ⟨rfl, hlt, e1, e2⟩ | ⟨rfl, hlt, e1, e2⟩
        · rw [e1, e2, uI_up (hrng _ _).1 w6]
          congr 1
          unfold bump
          rw [if_pos ⟨rfl, rfl⟩, if_neg (fun z => hne z.1)]; omega
        · have := hW.1 c (P c)
          rw [e1, e2, uI_dn (by omega) (hrng _ _).2]
          congr 1
          unfold bump
          rw [if_neg (fun z => hne z.1.symm), if_pos ⟨rfl, rfl⟩]; omega
      · rw [upd_b q, hU j hj]
        obtain ⟨p', q', k1, k2, k3, k4, k5, -, -, -, k6⟩ := Q_pair hn Q hT hj
        have kne : κ j ≠ κ i' := fun z => q (Q_inj Q hj hi' z)
        congr 1
        unfold bump
        rw [k2, k3, if_neg (fun z => kne (by rw [k6, hk', z.1, z.2])), if_neg (fun z => kne (by rw [k6, hk', z.1, z.2, pr_comm]))]; omega
theorem c_countL (hn : n ≤ 24) (Q : QOK m f s t u κ T U) (hT : TOK n st T) (ha : a < n) (hb : b < n) (hab : a ≠ b) : ∀ (g w : Nat) (F : Nat → Nat → Int) (us cb re : Nat → Int32), 600 < g + w → FL n T a b w F → UF m κ F us →
    ∃ (v' : Nat) (us' cb' re' : Nat → Int32), jX5_countApart_L11 (nI m) f s (nI a) (nI b) g us cb re (nI w) = some (us', cb', re', nI v') ∧ v' ≤ 576 ∧ MF n T a b v' := by
  intro g
  induction g with
  | zero =>
    intro w F us cb re hg hF
    have h1 := FL_le (R := fun x => decide (x = a)) hF (by omega) (by omega) hab (by simp) (by simp; exact fun z => hab z.symm)
    have := cut_le (n := n) (T := T) (R := fun x => decide (x = a))
    omega
  | succ g ih =>
    intro w F us cb re hg hF hU
    have hm := Q.1
    have h1 := FL_le (R := fun x => decide (x = a)) hF (by omega) (by omega) hab (by simp) (by simp; exact fun z => hab z.symm)
    rw [cut_one (by omega)] at h1
    have h2 := deg_le hn Q.2.1 hT ha
    rw [jX5_countApart_L11]
    by_cases he : m ≤ w
    · rw [if_pos ((nI_leI (by omega) (by omega)).mpr he)]
      refine ⟨w, us, cb, re, rfl, by omega, ⟨fun x => decide (x = a), by simp, by simp; exact fun z => hab z.symm, ?_⟩, fun R hRa hRb => FL_le hF (by omega) (by omega) hab hRa hRb⟩
      rw [cut_one (by omega)]; omega
    · rw [if_neg (fun q => he ((nI_leI (by omega) (by omega)).mp q))]
      obtain ⟨known, L, Rd, rk, P, cb', re', r, e, g1, g2, g3⟩ := c_findWay (us := us) (cb := cb) (re := re) hn Q hT hF.1 hF.2.1 hU ha hb hab
      rw [e, bnd_n]
      dsimp only
      rcases g3 with ⟨rfl, hR⟩ | ⟨rfl, hR, hc⟩
      · rw [if_neg one_ne]
        obtain ⟨k1, k2, -⟩ := g1.2.1 b hR
        have k3 := BS_le g1
        obtain ⟨us', F', e2, hF', hU'⟩ := c_useL (b := b) (v := (w : Int)) hn Q hT ha g1 g2 FU b 0 F us hR (by omega) (by unfold FU; omega) (WK_start hF hab) hU
        have e3 : jX5_useWay us cb' f s (nI a) (nI b) = some us' := bnd_i e2 rfl
        rw [e3, bnd_n, nI_1]
        exact ih (w + 1) F' us' cb' re' (by omega) (by rw [Int.natCast_add]; exact hF') hU'
      · rw [if_pos rfl]
        exact ⟨w, us, cb', re', rfl, by omega, FL_done hF (by omega) (by omega) hab g1.1 hR hc⟩
theorem FL_0 : FL n T a b 0 (fun _ _ => 0) := by
  refine ⟨fun _ _ => rfl, fun _ _ => cap_nn, fun x _ => ?_⟩
  have : net (fun _ _ => 0) x = 0 := zs_zero fun _ _ => rfl
  rw [this]
  split <;> split <;> rfl
theorem c_countApart (hn : n ≤ 24) (Q : QOK m f s t u κ T U) (hT : TOK n st T) (ha : a < n) (hb : b < n) (hab : a ≠ b) :
    ∃ (v' : Nat) (us' cb' re' : Nat → Int32), jX5_countApart us cb re (nI m) f s (nI a) (nI b) = some (nI v', us', cb', re') ∧ v' ≤ 576 ∧ MF n T a b v' := by
  have hm := Q.1
  obtain ⟨v', us', cb', re', e, h1, h2⟩ := c_countL hn Q hT ha hb hab FU 0 (fun _ _ => 0) (fun i => if i < 48 then 0 else us i) cb re (by unfold FU; omega) FL_0 (fun i hi => if_pos (by omega))
  refine ⟨v', us', cb', re', ?_, h1, h2⟩
  unfold jX5_countApart
  rw [c_fill (by omega), bnd_n]
  exact bnd_i e rfl
end CWays
