/-! the reference counts ways that have no lashing in common -/
def RU (F : Nat → Nat → Int) (us : Nat → Int32) : Prop := ∀ x y, x < 24 → y < 24 → us (24 * x + y) = if F x y = 1 then 1 else 0
def RBr (n known : Nat) (L P : Nat → Nat) (Rd : Nat → Bool) (fr li : Nat → Int32) : Prop :=
  (∀ j, j < known → li j = nI (L j)) ∧ (∀ x, x < n → Rd x = false → fr x = -1) ∧ ∀ x, Rd x = true → P x < 24 ∧ fr x = nI (P x)
section RWays
variable {n a b : Nat} {T st us fr li : Nat → Int32} {F : Nat → Nat → Int} {v : Int}
theorem r_ways5 : jX7_ways_L5 FU us 0 = some (fun i => if i < 576 then 0 else us i) := by
  refine itF0 (fun g s v => jX7_ways_L5 g s v) (fun j i => if i < j then 0 else us i) 576 (by omega) (by simp) (fun g => ?_) (fun g j hj => ?_)
  · rw [jX7_ways_L5, if_pos (by decide)]
  · rw [jX7_ways_L5, if_neg (fun q => by have := (nI_leI (a := 576) (by omega) (by omega)).mp q; omega), chk_n (by omega) (by omega), chkZ_a, wr_n (by omega), nI_1]
    congr 1
    funext i
    unfold upd
    by_cases hi : i = j
    · subst hi; rw [if_pos rfl, if_pos (by omega)]
    · rw [if_neg hi]; simp only [p_lts hi]
theorem r_ways30 : jX7_ways_L30 FU fr 0 = some (fun i => if i < 24 then -1 else fr i) := by
  refine itF0 (fun g s v => jX7_ways_L30 g s v) (fun j i => if i < j then -1 else fr i) 24 (by omega) (by simp) (fun g => ?_) (fun g j hj => ?_)
  · rw [jX7_ways_L30, if_pos (by decide)]
  · rw [jX7_ways_L30, if_neg (fun q => by have := (nI_leI (a := 24) (by omega) (by omega)).mp q; omega), chk_n (by omega) (by omega), wr_n (by omega), nI_1]
    congr 1
    funext i
    unfold upd
    by_cases hi : i = j
    · subst hi; rw [if_pos rfl, if_pos (by omega)]
    · rw [if_neg hi]; simp only [p_lts hi]
theorem r_ways100 (hn : n ≤ 24) (h1 : ∀ x y, F x y = - F y x) (h2 : ∀ x y, F x y ≤ cap n T x y) (hU : RU F us) {known0 y : Nat} {L0 : Nat → Nat} {Rd0 : Nat → Bool} {rk0 P0 : Nat → Nat} (hB : BS n a known0 L0 Rd0 rk0 P0 (rsd n T F)) (hC : RBr n known0 L0 P0 Rd0 fr li) (hy : Rd0 y = true) :
    ∃ known L Rd rk P fr' li', jX7_ways_L100 (nI n) T us (nI y) FU fr li (nI known0) 0 = some (fr', li', nI known) ∧ BS n a known L Rd rk P (rsd n T F) ∧ RBr n known L P Rd fr' li' ∧ (∀ x, Rd0 x = true → Rd x = true) ∧ (∀ j, j < known0 → L j = L0 j) ∧ known0 ≤ known ∧ ∀ x, tbb n T y x = true → F y x ≤ 0 → Rd x = true := by
  have hyn := (hB.2.1 y hy).1
  refine (itI0 (s0 := (fr, li, nI known0)) (fun g (z : (Nat → Int32) × (Nat → Int32) × Int32) w => jX7_ways_L100 (nI n) T us (nI y) g z.1 z.2.1 z.2.2 w) n
    (fun i z => ∃ known L Rd rk P, z.2.2 = nI known ∧ BS n a known L Rd rk P (rsd n T F) ∧ RBr n known L P Rd z.1 z.2.1 ∧ (∀ x, Rd0 x = true → Rd x = true) ∧ (∀ j, j < known0 → L j = L0 j) ∧ known0 ≤ known ∧ ∀ x, x < i → tbb n T y x = true → F y x ≤ 0 → Rd x = true)
    (fun z => ∃ known L Rd rk P, z.2.2 = nI known ∧ BS n a known L Rd rk P (rsd n T F) ∧ RBr n known L P Rd z.1 z.2.1 ∧ (∀ x, Rd0 x = true → Rd x = true) ∧ (∀ j, j < known0 → L j = L0 j) ∧ known0 ≤ known ∧ ∀ x, x < n → tbb n T y x = true → F y x ≤ 0 → Rd x = true) (by omega)
    ⟨known0, L0, Rd0, rk0, P0, rfl, hB, hC, fun _ h => h, fun _ _ => rfl, Nat.le_refl _, fun x hx => by omega⟩ (fun g z hz => ⟨z, by rw [jX7_ways_L100, if_pos (Int32.le_refl _)], hz⟩) (fun g x z hx hz => ?_)).elim
    (fun r ⟨hr, known, L, Rd, rk, P, e, g1, g2, g3, g4, g5, g6⟩ => ⟨known, L, Rd, rk, P, r.1, r.2.1, ?_, g1, g2, g3, g4, g5, fun x ht hF => g6 x (tb_iff.mp ht).2.1 ht hF⟩)
  · obtain ⟨z1, z2, z3⟩ := z
    obtain ⟨known, L, Rd, rk, P, e, g1, g2, g3, g4, g5, g6⟩ := hz
    dsimp only at e g2 ⊢
    subst e
    have hk := BS_le g1
    rw [jX7_ways_L100, if_neg (fun q => by have := (nI_leI (by omega) (by omega)).mp q; omega), nI_1]
    have stay : (tbb n T y x = true → F y x ≤ 0 → Rd x = true) → ∃ z' : (Nat → Int32) × (Nat → Int32) × Int32, (∃ known L Rd rk P, z'.2.2 = nI known ∧ BS n a known L Rd rk P (rsd n T F) ∧ RBr n known L P Rd z'.1 z'.2.1 ∧ (∀ x, Rd0 x = true → Rd x = true) ∧ (∀ j, j < known0 → L j = L0 j) ∧ known0 ≤ known ∧ ∀ x', x' < x + 1 → tbb n T y x' = true → F y x' ≤ 0 → Rd x' = true) ∧ jX7_ways_L100 (nI n) T us (nI y) g z1 z2 (nI known) (nI (x + 1)) = jX7_ways_L100 (nI n) T us (nI y) g z'.1 z'.2.1 z'.2.2 (nI (x + 1)) := fun hs => by
      refine ⟨(z1, z2, nI known), ⟨known, L, Rd, rk, P, rfl, g1, g2, g3, g4, g5, fun x' hx' => ?_⟩, rfl⟩
      by_cases q : x' = x
      · rw [q]; exact hs
      · exact g6 x' (by omega)
    by_cases hxy : x = y
    · subst hxy
      rw [if_pos rfl]
      exact stay (fun ht => absurd rfl (tb_iff.mp ht).2.2.1)
    · rw [if_neg (fun z => hxy ((nI_eq (by omega) (by omega)).mp z)), chk_n (by omega) (by omega), rd_n (by omega)]
      cases hR : Rd x with
      | true =>
        rw [(g2.2.2 x hR).2, if_neg (n_m1 (by have := (g2.2.2 x hR).1; omega))]
        exact stay (fun _ _ => hR)
      | false =>
        rw [g2.2.1 x hx hR, if_pos rfl, r_tied (by omega) (by omega), bnd_n]
        by_cases ht : 0 < T (pr y x)
        · have htie : Tie n T y x := ⟨hyn, hx, fun z => hxy z.symm, ht⟩
          rw [if_pos ht, if_neg one_ne, l24, pk_mul, nI_add, chk_n (by omega) (by omega), rd_n (by omega), hU y x (by omega) (by omega)]
          by_cases hF : F y x = 1
          · rw [if_pos hF, if_neg one_ne]
            exact stay (fun _ hle => by rw [hF] at hle; exact absurd hle (by decide))
          · have hF2 := F_rng h1 h2 y x
            have room := BS_room g1 hx hR
            have yR := g3 y hy
            rw [if_neg hF, if_pos rfl, chk_n (by omega) (by omega), chk_n (by omega) (by omega), wr_n (by omega), wr_n (by omega), nI_1]
            refine ⟨(upd z1 x (nI y), upd z2 known (nI x), nI (known + 1)), ⟨known + 1, un L known x, un Rd x true, un rk x known, un P x y, rfl, BS_add g1 hx hR yR ⟨tb_iff.mpr htie, by omega⟩, ⟨fun j hj => ?_, fun x' hx' hR' => ?_, fun x' hR' => ?_⟩, fun x' h' => ?_, fun j hj => ?_, by omega, fun x' hj e1 e2 => ?_⟩, rfl⟩
            · dsimp only
              by_cases q : j = known
              · subst q; rw [upd_a, un_a]
              · rw [upd_b q, un_b q]; exact g2.1 j (by omega)
            · dsimp only
              by_cases q : x' = x
              · rw [q, un_a] at hR'; exact absurd hR' (by decide)
              · rw [un_b q] at hR'
                rw [upd_b q]; exact g2.2.1 x' hx' hR'
            · dsimp only
              by_cases q : x' = x
              · subst q
                rw [upd_a, un_a]; exact ⟨by omega, rfl⟩
              · rw [un_b q] at hR'
                rw [upd_b q, un_b q]; exact g2.2.2 x' hR'
            · by_cases q : x' = x
              · rw [q, un_a]
              · rw [un_b q]; exact g3 x' h'
            · rw [un_b (by omega)]; exact g4 j hj
            · by_cases q : x' = x
              · rw [q, un_a]
              · rw [un_b q]; exact g6 x' (by omega) e1 e2
        · rw [if_neg ht, if_pos rfl]
          exact stay (fun z => absurd (tb_iff.mp z).2.2.2 ht)
  · rw [← e]; exact hr
theorem r_ways71 (hn : n ≤ 24) (h1 : ∀ x y, F x y = - F y x) (h2 : ∀ x y, F x y ≤ cap n T x y) (hU : RU F us) (hb : b < n) : ∀ (g i known0 : Nat) (L : Nat → Nat) (Rd : Nat → Bool) (rk P : Nat → Nat) (fr li : Nat → Int32), i ≤ known0 → 30 < g + i → BS n a known0 L Rd rk P (rsd n T F) → RBr n known0 L P Rd fr li → (∀ j, j < i → ∀ x, tbb n T (L j) x = true → F (L j) x ≤ 0 → Rd x = true) →
    ∃ known L Rd rk P fr' li', jX7_ways_L71 (nI n) T us (nI b) g fr li (nI known0) (nI i) = some (fr', li') ∧ BS n a known L Rd rk P (rsd n T F) ∧ RBr n known L P Rd fr' li' ∧ (Rd b = true ∨ (Rd b = false ∧ ∀ x y, Rd x = true → tbb n T x y = true → F x y ≤ 0 → Rd y = true)) := by
  intro g
  induction g with
  | zero => intro i known0 L Rd rk P fr li hi hg hB; have := BS_le hB; omega
  | succ g ih =>
    intro i known0 L Rd rk P fr li hi hg hB hC hcl
    have hk := BS_le hB
    rw [jX7_ways_L71]
    have done : i = known0 → Rd b = true ∨ (Rd b = false ∧ ∀ x y, Rd x = true → tbb n T x y = true → F x y ≤ 0 → Rd y = true) := fun e => by
      cases hR : Rd b with
      | true => exact Or.inl rfl
      | false =>
        refine Or.inr ⟨rfl, fun x y hx ht hF => ?_⟩
        obtain ⟨g1, g2, g3⟩ := hB.2.1 x hx
        exact hcl (rk x) (by omega) y (by rw [g3]; exact ht) (by rw [g3]; exact hF)
    by_cases he : known0 ≤ i
    · rw [if_pos ((nI_leI (by omega) (by omega)).mpr he)]
      exact ⟨known0, L, Rd, rk, P, fr, li, rfl, hB, hC, done (by omega)⟩
    · rw [if_neg (fun q => he ((nI_leI (by omega) (by omega)).mp q)), chk_n (by omega) (by omega), rd_n (by omega)]
      by_cases hm1 : fr b = -1
      · rw [if_pos hm1, chk_n (by omega) (by omega), rd_n (by omega), hC.1 i (by omega)]
        obtain ⟨l1, l2⟩ := hB.2.2.1 i (by omega)
        obtain ⟨known, L', Rd', rk', P', fr', li', e1, g1, g2, g3, g4, g5, g6⟩ := r_ways100 hn h1 h2 hU hB hC l1
        rw [e1, bnd_n, nI_1]
        refine ih (i + 1) known L' Rd' rk' P' fr' li' (by omega) (by omega) g1 g2 (fun j hj x ht hF => ?_)
        rw [g4 j (by omega)] at ht hF
        by_cases q : j = i
        · subst q; exact g6 x ht hF
        · exact g3 x (hcl j (by omega) x ht hF)
      · rw [if_neg hm1]
        refine ⟨known0, L, Rd, rk, P, fr, li, rfl, hB, hC, ?_⟩
        cases hR : Rd b with
        | true => exact Or.inl rfl
        | false => exact absurd (hC.2.1 b hb hR) hm1
theorem r_walk (hn : n ≤ 24) {F0 : Nat → Nat → Int} {known : Nat} {L : Nat → Nat} {Rd : Nat → Bool} {rk P : Nat → Nat} (ha : a < n) (hB : BS n a known L Rd rk P (rsd n T F0)) (hC : RBr n known L P Rd fr li) : ∀ (g c : Nat) (F : Nat → Nat → Int) (us : Nat → Int32), Rd c = true → rk c < g → WK n T a b v F0 Rd rk c F → RU F us →
    ∃ us' F', jX7_ways_L205 fr (nI a) g us (nI c) = some us' ∧ FL n T a b (v + 1) F' ∧ RU F' us' := by
  intro g
  induction g with
  | zero => intro c F us _ h; omega
  | succ g ih =>
    intro c F us hc hg hW hU
    have hcn := (hB.2.1 c hc).1
    rw [jX7_ways_L205]
    by_cases hca : c = a
    · subst hca
      rw [if_pos rfl]
      exact ⟨us, F, rfl, WK_end hW, hU⟩
    · obtain ⟨w1, w2, w3, w4, w5, w6, w7⟩ := WK_step hn hB hW hc hca
      have hne := w5.2.2.1
      have hrng := F_rng hW.1 hW.2.1
      have hs := hW.1 c (P c)
      rw [if_neg (fun z => hca ((nI_eq (by omega) (by omega)).mp z)), chk_n (by omega) (by omega), rd_n (by omega), (hC.2.2 c hc).2, l24, pk_mul, pk_mul, nI_add, nI_add, chk_n (by omega) (by omega), rd_n (by omega), hU c (P c) (by omega) (by omega)]
      have hrc := hrng c (P c)
      by_cases hF : F c (P c) = 1
      · rw [if_pos hF, if_neg one_ne, chk_n (by omega) (by omega), chk_n (by omega) (by omega), chkZ_a, chk_n (by omega) (by omega), wr_n (by omega)]
        refine ih (P c) (bump F (P c) c) _ w1 (by omega) w7 (fun x y hx hy => ?_)
        unfold upd
        by_cases q : x = c ∧ y = P c
        · rw [if_pos (by rw [q.1, q.2])]
          rw [q.1, q.2, if_neg]
          unfold bump
          rw [if_neg (fun z => hne z.1.symm), if_pos ⟨rfl, rfl⟩]; omega
        · rw [if_neg (by omega), hU x y hx hy]
          by_cases q2 : x = P c ∧ y = c
          · have e : bump F (P c) c x y = 0 := by
              unfold bump
              rw [if_pos q2, if_neg q, q2.1, q2.2]; omega
            rw [e, if_neg (by rw [q2.1, q2.2]; omega), if_neg (by decide)]
          · have e : bump F (P c) c x y = F x y := by
              unfold bump
              rw [if_neg q2, if_neg q]; omega
            rw [e]
      · rw [if_neg hF, if_pos rfl, chk_n (by omega) (by omega), chk_n (by omega) (by omega), chkZ_b, chk_n (by omega) (by omega), wr_n (by omega)]
        refine ih (P c) (bump F (P c) c) _ w1 (by omega) w7 (fun x y hx hy => ?_)
        unfold upd
        by_cases q : x = P c ∧ y = c
        · rw [if_pos (by rw [q.1, q.2]), q.1, q.2, if_pos]
          unfold bump
          rw [if_pos ⟨rfl, rfl⟩, if_neg (fun z => hne z.1)]; omega
        · rw [if_neg (by omega), hU x y hx hy]
          by_cases q2 : x = c ∧ y = P c
          · have e : bump F (P c) c x y = F c (P c) - 1 := by
              unfold bump
              rw [if_neg q, if_pos q2, q2.1, q2.2]; omega
            rw [e, if_neg (by rw [q2.1, q2.2]; exact hF), if_neg (by omega)]
          · have e : bump F (P c) c x y = F x y := by
              unfold bump
              rw [if_neg q2, if_neg q]; omega
            rw [e]
theorem r_ways27 (hn : n ≤ 24) (ha : a < n) (hb : b < n) (hab : a ≠ b) : ∀ (g w : Nat) (F : Nat → Nat → Int) (us fr li : Nat → Int32), 600 < g + w → FL n T a b w F → RU F us →
    ∃ (v' : Nat) (us' fr' li' : Nat → Int32), jX7_ways_L27 (nI n) T (nI a) (nI b) g us fr li (nI w) = some (us', fr', li', nI v') ∧ v' ≤ 576 ∧ MF n T a b v' := by
  intro g
  induction g with
  | zero =>
    intro w F us fr li hg hF
    have h1 := FL_le (R := fun x => decide (x = a)) hF (by omega) (by omega) hab (by simp) (by simp; exact fun z => hab z.symm)
    have := cut_le (n := n) (T := T) (R := fun x => decide (x = a))
    omega
  | succ g ih =>
    intro w F us fr li hg hF hU
    have z0 : (0 : Int32).toNatClampNeg = 0 := by decide
    have h1 := FL_le (R := fun x => decide (x = a)) hF (by omega) (by omega) hab (by simp) (by simp; exact fun z => hab z.symm)
    have h2 := cut_le (n := n) (T := T) (R := fun x => decide (x = a))
    obtain ⟨known, L, Rd, rk, P, fr', li', e, g1, g2, g3⟩ := r_ways71 (us := us) hn hF.1 hF.2.1 hU hb FU 0 1 (fun _ => a) (fun x => decide (x = a)) (fun _ => 0) (fun _ => a) (upd (fun i => if i < 24 then -1 else fr i) a (nI a)) (wr li 0 (nI a)) (by omega) (by unfold FU; omega) (BS_start ha rfl)
      ⟨fun j hj => by
        obtain rfl : j = 0 := by omega
        unfold wr; rw [z0, upd_a], fun x hx hR => by
        rw [upd_b (of_decide_eq_false hR)]; exact if_pos (by omega), fun x hx => by
        obtain rfl := of_decide_eq_true hx
        rw [upd_a]; exact ⟨by show x < 24; omega, rfl⟩⟩ (fun j hj => by omega)
    rw [jX7_ways_L27, r_ways30, bnd_n, chk_n (by omega) (by omega), show ∀ k : Option ((Nat → Int32) × (Nat → Int32) × (Nat → Int32) × Int32), chk 24 0 k = k from fun k => if_pos (by decide), wr_n (by omega), show jX7_ways_L71 (nI n) T us (nI b) FU (upd (fun i => if i < 24 then -1 else fr i) a (nI a)) (wr li 0 (nI a)) 1 0 = some (fr', li') from e, bnd_n, chk_n (by omega) (by omega), rd_n (by omega)]
    dsimp only
    rcases g3 with hR | ⟨hR, hc⟩
    · have hp := g1.2.1 _ (g1.2.2.2.1 b hR (fun z => hab z.symm)).1
      obtain ⟨k1, k2, -⟩ := g1.2.1 b hR
      have k3 := BS_le g1
      have hne : ¬ fr' b = -1 := by rw [(g2.2.2 b hR).2]; exact n_m1 (by omega)
      rw [if_neg hne]
      obtain ⟨us', F', e2, hF', hU'⟩ := r_walk (b := b) (v := (w : Int)) hn ha g1 g2 FU b F us hR (by unfold FU; omega) (WK_start hF hab) hU
      rw [e2, bnd_n, nI_1]
      exact ih (w + 1) F' us' fr' li' (by omega) (by rw [Int.natCast_add]; exact hF') hU'
    · rw [if_pos (g2.2.1 b hb hR)]
      exact ⟨w, us, fr', li', rfl, by omega, FL_done hF (by omega) (by omega) hab g1.1 hR hc⟩
theorem r_ways (hn : n ≤ 24) (ha : a < n) (hb : b < n) (hab : a ≠ b) : ∃ (v' : Nat) (us' fr' li' : Nat → Int32), jX7_ways (nI n) T us fr li (nI a) (nI b) = some (nI v', us', fr', li') ∧ v' ≤ 576 ∧ MF n T a b v' := by
  obtain ⟨v', us', fr', li', e, h1, h2⟩ := r_ways27 (T := T) hn ha hb hab FU 0 (fun _ _ => 0) (fun i => if i < 576 then 0 else us i) fr li (by unfold FU; omega) FL_0 (fun x y hx hy => (if_pos (by omega)).trans (if_neg (show ¬ (0 : Int) = 1 by decide)).symm)
  refine ⟨v', us', fr', li', ?_, h1, h2⟩
  unfold jX7_ways
  rw [r_ways5, bnd_n]
  exact bnd_i e rfl
end RWays
