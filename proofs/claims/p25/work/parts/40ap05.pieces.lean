/-! pieces: what hangs together, named by its least barrel -/
def conn (R : Nat → Nat → Prop) (a b : Nat) : Prop := ∀ P : Nat → Prop, P a → (∀ x y, R x y → P x → P y) → P b
theorem conn_refl {R : Nat → Nat → Prop} {a : Nat} : conn R a a := fun _ h _ => h
theorem conn_step {R : Nat → Nat → Prop} {a b c : Nat} (h : conn R a b) (h' : R b c) : conn R a c := fun P h1 h2 => h2 b c h' (h P h1 h2)
theorem conn_trans {R : Nat → Nat → Prop} {a b c : Nat} (h : conn R a b) (h' : conn R b c) : conn R a c := fun P h1 h2 => h' P (h P h1 h2) h2
theorem conn_symm {R : Nat → Nat → Prop} {a b : Nat} (hs : ∀ x y, R x y → R y x) (h : conn R a b) : conn R b a :=
  h (fun z => conn R z a) conn_refl (fun x y q hx => conn_trans (conn_step conn_refl (hs x y q)) hx)
theorem conn_mono {R R' : Nat → Nat → Prop} {a b : Nat} (hR : ∀ x y, R x y → R' x y) (h : conn R a b) : conn R' a b := fun P h1 h2 => h P h1 (fun x y q => h2 x y (hR x y q))
theorem conn_const {R : Nat → Nat → Prop} {α : Type} {p : Nat → α} {a b : Nat} (hp : ∀ x y, R x y → p x = p y) (h : conn R a b) : p a = p b := h (fun z => p a = p z) rfl (fun x y q e => e.trans (hp x y q))
def POK (n : Nat) (st : Nat → Int32) (R : Nat → Nat → Prop) (p : Nat → Int32) : Prop :=
  (∀ j, j < n → st j = 0 → ∃ i, i ≤ j ∧ p j = nI i ∧ conn R i j) ∧ (∀ a b, R a b → p a = p b) ∧ ∀ j, j < n → st j ≠ 0 → p j = -1
theorem POK_le {n : Nat} {st : Nat → Int32} {R : Nat → Nat → Prop} {p q : Nat → Int32} (hn : n ≤ 24) (hp : POK n st R p) (hq : POK n st R q) {j i i' : Nat} (hj : j < n) (h0 : st j = 0) (h1 : p j = nI i) (h2 : q j = nI i') (hi : i ≤ j) (hi' : i' ≤ j) (hc : conn R i j) : i' ≤ i := by
  have e : q i = nI i' := (conn_const hq.2.1 hc).trans h2
  by_cases hs : st i = 0
  · obtain ⟨k, hk, hk2, -⟩ := hq.1 i (by omega) hs
    have := (nI_eq (by omega) (by omega)).mp (hk2.symm.trans e)
    omega
  · have := hq.2.2 i (by omega) hs
    rw [e] at this
    exact absurd this (n_m1 (by omega))
theorem POK_one {n : Nat} {st : Nat → Int32} {R : Nat → Nat → Prop} {p q : Nat → Int32} (hn : n ≤ 24) (hp : POK n st R p) (hq : POK n st R q) : ∀ j, j < n → p j = q j := by
  intro j hj
  by_cases h0 : st j = 0
  · obtain ⟨i, h1, h2, h3⟩ := hp.1 j hj h0
    obtain ⟨i', h1', h2', h3'⟩ := hq.1 j hj h0
    have a := POK_le hn hp hq hj h0 h2 h2' h1 h1' h3
    have b := POK_le hn hq hp hj h0 h2' h2 h1' h1 h3'
    rw [h2, h2', Nat.le_antisymm b a]
  · rw [hp.2.2 j hj h0, hq.2.2 j hj h0]
theorem POK_iff {n : Nat} {st : Nat → Int32} {R R' : Nat → Nat → Prop} {p : Nat → Int32} (h : ∀ a b, R a b ↔ R' a b) (hp : POK n st R p) : POK n st R' p :=
  ⟨fun j hj h0 => by obtain ⟨i, h1, h2, h3⟩ := hp.1 j hj h0; exact ⟨i, h1, h2, conn_mono (fun x y q => (h x y).mp q) h3⟩, fun a b q => hp.2.1 a b ((h a b).mpr q), hp.2.2⟩
/-- the name of a piece names itself -/
theorem POK_self {n : Nat} {st : Nat → Int32} {R : Nat → Nat → Prop} {p : Nat → Int32} (hn : n ≤ 24) (hp : POK n st R p) {j i : Nat} (hj : j < n) (h : p j = nI i) (hi : i < 24) : i ≤ j ∧ st j = 0 ∧ st i = 0 ∧ p i = nI i ∧ conn R i j := by
  by_cases h0 : st j = 0
  · obtain ⟨k, h1, h2, h3⟩ := hp.1 j hj h0
    obtain rfl := (nI_eq (by omega) (by omega)).mp (h.symm.trans h2)
    have e := (conn_const hp.2.1 h3).trans h
    refine ⟨h1, h0, ?_, e, h3⟩
    by_cases hs : st i = 0
    · exact hs
    · have := hp.2.2 i (by omega) hs
      rw [e] at this
      exact absurd this (n_m1 (by omega))
  · have := hp.2.2 j hj h0
    rw [h] at this
    exact absurd this (n_m1 (by omega))
def Tie (n : Nat) (T : Nat → Int32) (a b : Nat) : Prop := a < n ∧ b < n ∧ a ≠ b ∧ 0 < T (pr a b)
theorem Tie_symm {n : Nat} {T : Nat → Int32} (a b : Nat) (h : Tie n T a b) : Tie n T b a := ⟨h.2.1, h.1, fun q => h.2.2.1 q.symm, by rw [pr_comm]; exact h.2.2.2⟩
theorem c_join {n : Nat} {p : Nat → Int32} {a b x y : Nat} (hn : n ≤ 24) (ha : a < n) (hb : b < n) (hx : x < 24) (hy : y < 24) (ea : p a = nI x) (eb : p b = nI y) (hp : ∀ i k, i < n → p i = nI k → k < 24 → k ≤ i) :
    jX0_join (nI n) p (nI a) (nI b) = some (fun i => if i < n ∧ p i = nI (max x y) then nI (min x y) else p i) := by
  unfold jX0_join
  simp (disch := omega) only [chk_n, rd_n, wr_n, bnd_n, chkZ_a, chkZ_b, jn_n, sel_a, sel_b, nI_leI, nI_ltI, nI_eq, nI_1, nI_add, upd_a, ea, eb, mmin_n, mmax_n]
  rw [if_neg (n_neg (by omega))]
  by_cases h : min x y = max x y
  · rw [if_pos h]
    congr 1
    funext i
    split
    · rename_i q; rw [q.2, h]
    · rfl
  · rw [if_neg h]
    have hmn : max x y ≤ n := by
      have := hp a x ha ea hx
      have := hp b y hb eb hy
      omega
    refine bnd_i (?_ : jX0_join_L48 (nI n) (nI (min x y)) (nI (max x y)) FU p (nI (max x y)) = some (fun i => if i < n ∧ p i = nI (max x y) then nI (min x y) else p i)) rfl
    have e0 : (fun i => if i < max x y ∧ p i = nI (max x y) then nI (min x y) else p i) = p := by
      funext i
      rw [if_neg]
      intro q
      have := hp i (max x y) (by omega) q.2 (by omega)
      omega
    have := itFk (r := fun i => if i < n ∧ p i = nI (max x y) then nI (min x y) else p i) (fun f s v => jX0_join_L48 (nI n) (nI (min x y)) (nI (max x y)) f s v) (fun j i => if i < j ∧ p i = nI (max x y) then nI (min x y) else p i) (max x y) n ?_ ?_ FU (max x y)
    · rw [e0] at this
      exact this (by omega) hmn (by unfold FU; omega)
    · intro f
      simp (disch := omega) only [chk_n, rd_n, wr_n, bnd_n, chkZ_a, chkZ_b, jn_n, sel_a, sel_b, nI_leI, nI_ltI, nI_eq, nI_1, nI_add, upd_a, jX0_join_L48, Nat.le_refl, if_true]
    · intro f j hj1 hj
      simp (disch := omega) only [chk_n, rd_n, wr_n, bnd_n, chkZ_a, chkZ_b, jn_n, sel_a, sel_b, nI_leI, nI_ltI, nI_eq, nI_1, nI_add, upd_a, jX0_join_L48, Nat.not_le.mpr hj, if_false]
      simp only [Nat.lt_irrefl, false_and, if_false]
      by_cases h2 : p j = nI (max x y)
      · rw [if_pos h2]
        congr 1
        funext i
        unfold upd
        by_cases hi : i = j
        · subst hi
          rw [if_pos rfl, if_pos ⟨by omega, h2⟩]
        · rw [if_neg hi]
          simp only [p_lts hi]
      · rw [if_neg h2]
        congr 1
        funext i
        by_cases hi : i = j
        · subst hi
          rw [if_neg (fun q => h2 q.2), if_neg (fun q => h2 q.2)]
        · simp only [p_lts hi]
/-- the pieces after one lashing more -/
theorem POK_join {n : Nat} {st : Nat → Int32} {R R' : Nat → Nat → Prop} {p : Nat → Int32} {a b x y : Nat} (hn : n ≤ 24) (hs : ∀ x y, R x y → R y x) (hp : POK n st R p) (ha : a < n) (hb : b < n) (ea : p a = nI x) (eb : p b = nI y) (hx : x < 24) (hy : y < 24)
    (hRn : ∀ x y, R x y → x < n ∧ y < n) (hR : ∀ c d, R' c d ↔ R c d ∨ (c = a ∧ d = b) ∨ (c = b ∧ d = a)) : POK n st R' (fun i => if i < n ∧ p i = nI (max x y) then nI (min x y) else p i) := by
  have hs' : ∀ x y, R' x y → R' y x := fun c d h => by
    rcases (hR c d).mp h with q | q | q
    · exact (hR d c).mpr (Or.inl (hs _ _ q))
    · exact (hR d c).mpr (Or.inr (Or.inr ⟨q.2, q.1⟩))
    · exact (hR d c).mpr (Or.inr (Or.inl ⟨q.2, q.1⟩))
  have hm : ∀ c d, conn R c d → conn R' c d := fun c d h => conn_mono (fun c d q => (hR c d).mpr (Or.inl q)) h
  obtain ⟨hxa, -, -, -, ca⟩ := POK_self hn hp ha ea hx
  obtain ⟨hyb, -, -, -, cb⟩ := POK_self hn hp hb eb hy
  have hxy : conn R' x y := conn_trans (conn_step (hm _ _ ca) ((hR a b).mpr (Or.inr (Or.inl ⟨rfl, rfl⟩)))) (conn_symm hs' (hm _ _ cb))
  have hmm : conn R' (min x y) (max x y) := by
    rcases Nat.le_total x y with q | q
    · rw [Nat.min_eq_left q, Nat.max_eq_right q]; exact hxy
    · rw [Nat.min_eq_right q, Nat.max_eq_left q]; exact conn_symm hs' hxy
  have e1 : ∀ i, i < n → (p i = nI x ∨ p i = nI y) → (if i < n ∧ p i = nI (max x y) then nI (min x y) else p i) = nI (min x y) := by
    intro i hi h
    by_cases q : p i = nI (max x y)
    · rw [if_pos ⟨hi, q⟩]
    · rw [if_neg (fun z => q z.2)]
      rcases Nat.le_total x y with w | w
      · rw [Nat.max_eq_right w] at q
        rw [Nat.min_eq_left w]
        exact h.resolve_right q
      · rw [Nat.max_eq_left w] at q
        rw [Nat.min_eq_right w]
        exact h.resolve_left q
  refine ⟨fun j hj h0 => ?_, fun c d h => ?_, fun j hj h0 => ?_⟩
  · obtain ⟨i, h1, h2, h3⟩ := hp.1 j hj h0
    by_cases q : p j = nI (max x y)
    · obtain rfl := (nI_eq (by omega) (by omega)).mp (q.symm.trans h2)
      exact ⟨min x y, by omega, by dsimp only; rw [if_pos ⟨hj, q⟩], conn_trans hmm (hm _ _ h3)⟩
    · exact ⟨i, h1, by dsimp only; rw [if_neg (fun z => q z.2), h2], hm _ _ h3⟩
  · dsimp only
    rcases (hR c d).mp h with q | q | q
    · have := hRn _ _ q
      rw [hp.2.1 c d q]
      simp only [this.1, this.2]
    · obtain ⟨rfl, rfl⟩ := q
      rw [e1 c ha (Or.inl ea), e1 d hb (Or.inr eb)]
    · obtain ⟨rfl, rfl⟩ := q
      rw [e1 c hb (Or.inr eb), e1 d ha (Or.inl ea)]
  · dsimp only
    have := hp.2.2 j hj h0
    rw [this, if_neg (fun z => n_m1 (by omega) z.2.symm)]
/-- ties are of two that float -/
def TOK (n : Nat) (st T : Nat → Int32) : Prop := ∀ k, k < 576 → T k ≠ 0 → ∃ a b, k = 24 * a + b ∧ a < b ∧ b < n ∧ st a = 0 ∧ st b = 0 ∧ 0 < T k
theorem pr_of {a b : Nat} (h : a < b) : pr a b = 24 * a + b := by unfold pr; rw [Nat.min_eq_left (by omega), Nat.max_eq_right (by omega)]
theorem pr_cases {a b c d : Nat} (h : pr a b = 24 * c + d) (hcd : c < d) (hd : d < 24) (ha : a < 24) (hb : b < 24) : (a = c ∧ b = d) ∨ (a = d ∧ b = c) := by
  unfold pr at h
  omega
theorem c_findPieces {n m : Nat} {st p f s t u T U : Nat → Int32} {κ : Nat → Nat} (hn : n ≤ 24) (Q : QOK m f s t u κ T U) (hT : TOK n st T) : ∃ p', jX3_findPieces (nI n) st p (nI m) f s = some p' ∧ POK n st (Tie n T) p' := by
  obtain ⟨hm, he, hr⟩ := Q
  have hpair : ∀ i, i < m → ∃ a b, κ i = 24 * a + b ∧ a < b ∧ b < n ∧ st a = 0 ∧ st b = 0 ∧ 0 < T (κ i) := fun i hi => by
    have := he.1 i hi
    have h0 := of_decide_eq_true this.2
    exact hT _ this.1 (fun q => by rw [q] at h0; exact absurd h0 (by decide))
  refine (itI0 (s0 := fun i => if i < n then (if st i = 0 then nI i else -1) else p i) (fun g s' v => jX3_findPieces_L9 (nI n) (nI m) f s g s' v) m
    (fun v p => POK n st (fun a b => ∃ i, i < v ∧ a < n ∧ b < n ∧ a ≠ b ∧ κ i = pr a b) p) (fun p => POK n st (Tie n T) p) (by omega) ?_ (fun g p' h => ?_) (fun g v p' hv h => ?_)).elim (fun r ⟨hr, h⟩ => ⟨r, by unfold jX3_findPieces; rw [c_standAlone hn, bnd_n]; exact bnd_i hr rfl, h⟩)
  · refine ⟨fun j hj h0 => ⟨j, Nat.le_refl _, by dsimp only; rw [if_pos hj, if_pos h0], conn_refl⟩, fun a b ⟨i, hi, _⟩ => by omega, fun j hj h0 => by dsimp only; rw [if_pos hj, if_neg h0]⟩
  · refine ⟨p', by simp (disch := omega) only [chk_n, rd_n, wr_n, bnd_n, chkZ_a, chkZ_b, jn_n, sel_a, sel_b, nI_leI, nI_ltI, nI_eq, nI_1, nI_add, upd_a, jX3_findPieces_L9, Nat.le_refl, if_true], POK_iff (fun a b => ⟨fun ⟨i, hi, h1, h2, h3, h4⟩ => ⟨h1, h2, h3, ?_⟩, fun ⟨h1, h2, h3, h4⟩ => ?_⟩) h⟩
    · rw [← h4]; exact of_decide_eq_true (he.1 i hi).2
    · obtain ⟨i, hi, hk⟩ := he.2.2 (pr a b) (pr_lt (by omega) (by omega)) (decide_eq_true h4)
      exact ⟨i, hi, h1, h2, h3, hk⟩
  · obtain ⟨a, b, hk, hab, hbn, h0a, h0b, -⟩ := hpair v hv
    obtain ⟨r1, r2, -, -⟩ := hr v hv
    have fa : f v = nI a := by rw [r1]; congr 1; omega
    have sb : s v = nI b := by rw [r2]; congr 1; omega
    obtain ⟨x, hx, ex, -⟩ := h.1 a (by omega) h0a
    obtain ⟨y, hy, ey, -⟩ := h.1 b hbn h0b
    refine ⟨_, POK_join (R := fun a b => ∃ i, i < v ∧ a < n ∧ b < n ∧ a ≠ b ∧ κ i = pr a b) hn (fun c d ⟨i, h1, h2, h3, h4, h5⟩ => ⟨i, h1, h3, h2, fun q => h4 q.symm, h5.trans (pr_comm _ _)⟩) h (by omega) hbn ex ey (by omega) (by omega) (fun c d ⟨i, _, h2, h3, _⟩ => ⟨h2, h3⟩) (fun c d => ?_), ?_⟩
    · constructor
      · rintro ⟨i, h1, h2, h3, h4, h5⟩
        by_cases q : i = v
        · subst q
          exact Or.inr (pr_cases (h5.symm.trans hk) hab (by omega) (by omega) (by omega))
        · exact Or.inl ⟨i, by omega, h2, h3, h4, h5⟩
      · rintro (⟨i, h1, h2, h3, h4, h5⟩ | ⟨rfl, rfl⟩ | ⟨rfl, rfl⟩)
        · exact ⟨i, by omega, h2, h3, h4, h5⟩
        · exact ⟨v, by omega, by omega, by omega, by omega, by rw [hk, pr_of hab]⟩
        · exact ⟨v, by omega, by omega, by omega, by omega, by rw [hk, pr_comm, pr_of hab]⟩
    · simp (disch := omega) only [chk_n, rd_n, wr_n, bnd_n, chkZ_a, chkZ_b, jn_n, sel_a, sel_b, nI_leI, nI_ltI, nI_eq, nI_1, nI_add, upd_a, jX3_findPieces_L9, Nat.not_le.mpr hv, if_false, fa, sb]
      rw [c_join hn (by omega) hbn (by omega) (by omega) ex ey (fun i k hi e hk2 => (POK_self hn h hi e hk2).1), bnd_n]
