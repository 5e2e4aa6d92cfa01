/-! lashings without which a piece would be two -/
section Bridge
variable {n a b : Nat} {T U : Nat → Int32}
theorem MF_ge1 {v : Int} (hn : n ≤ 24) (ht : Tie n T a b) (h : MF n T a b v) : 1 ≤ v := by
  obtain ⟨⟨R, h1, h2, h3⟩, -⟩ := h
  have ha := ht.1
  have hb := ht.2.1
  have e : (if R a = true ∧ R b = false then cap n T a b else 0) = 1 := by
    rw [if_pos ⟨h1, h2⟩]; unfold cap; rw [if_pos (tb_iff.mpr ht)]
  have nn : ∀ x y, 0 ≤ (if R x = true ∧ R y = false then cap n T x y else 0) := fun x y => by split; exact cap_nn; exact Int.le_refl _
  have i1 := zs_one (g := fun y => if R a = true ∧ R y = false then cap n T a y else 0) (n := 24) (k := b) (fun y _ => nn a y) (by omega)
  have i2 := zs_one (g := fun x => zs (fun y => if R x = true ∧ R y = false then cap n T x y else 0) 24) (n := 24) (k := a) (fun x _ => zs_nn fun y _ => nn x y) (by omega)
  rw [h3]
  unfold cut
  omega
theorem MF_bridge {v : Int} (hn : n ≤ 24) (hl : ∀ q, q < 576 → 0 < T q → 0 ≤ T q - U q) (ht : Tie n T a b) (h : MF n T a b v) : v = 1 ↔ ¬ conn (rrb n T U 0 (nI (pr a b))) a b := by
  have hge := MF_ge1 hn ht h
  have ha := ht.1
  have hb := ht.2.1
  have hp := pr_lt (a := a) (b := b) (by omega) (by omega)
  have rr : ∀ x y, Tie n T x y → pr x y ≠ pr a b → rrb n T U 0 (nI (pr a b)) x y := fun x y hxy hne => by
    have hq := pr_lt (a := x) (b := y) (by have := hxy.1; omega) (by have := hxy.2.1; omega)
    exact ⟨hxy, fun z => hne ((nI_eq (by omega) (by omega)).mp z), hl _ hq hxy.2.2.2⟩
  constructor
  · intro hv hc
    obtain ⟨⟨R, h1, h2, h3⟩, -⟩ := h
    have : ∃ x y, rrb n T U 0 (nI (pr a b)) x y ∧ R x = true ∧ R y = false := by
      refine Classical.byContradiction fun no => ?_
      have := hc (fun z => R z = true) h1 (fun x y hR hx => by
        cases hy : R y with
        | true => rfl
        | false => exact absurd ⟨x, y, hR, hx, hy⟩ no)
      rw [h2] at this; exact absurd this (by decide)
    obtain ⟨x, y, hR, hx, hy⟩ := this
    have hne : pr x y ≠ pr a b := fun z => hR.2.1 (by rw [z])
    have hxn := hR.1.1
    have hyn := hR.1.2.1
    have nn : ∀ x y, 0 ≤ (if R x = true ∧ R y = false then cap n T x y else 0) := fun x y => by split; exact cap_nn; exact Int.le_refl _
    have e1 : (if R a = true ∧ R b = false then cap n T a b else 0) = 1 := by
      rw [if_pos ⟨h1, h2⟩]; unfold cap; rw [if_pos (tb_iff.mpr ht)]
    have e2 : (if R x = true ∧ R y = false then cap n T x y else 0) = 1 := by
      rw [if_pos ⟨hx, hy⟩]; unfold cap; rw [if_pos (tb_iff.mpr hR.1)]
    have hcut : 2 ≤ cut n T R := by
      unfold cut
      by_cases q : x = a
      · subst q
        have hyb : y ≠ b := fun z => hne (by rw [z])
        have i1 := zs_two (g := fun y => if R x = true ∧ R y = false then cap n T x y else 0) (n := 24) (k := b) (l := y) (fun y _ => nn x y) (by omega) (by omega) (fun z => hyb z.symm)
        have i2 := zs_one (g := fun x => zs (fun y => if R x = true ∧ R y = false then cap n T x y else 0) 24) (n := 24) (k := x) (fun x _ => zs_nn fun y _ => nn x y) (by omega)
        omega
      · have i1 := zs_one (g := fun y => if R a = true ∧ R y = false then cap n T a y else 0) (n := 24) (k := b) (fun y _ => nn a y) (by omega)
        have i3 := zs_one (g := fun y' => if R x = true ∧ R y' = false then cap n T x y' else 0) (n := 24) (k := y) (fun y _ => nn x y) (by omega)
        have i2 := zs_two (g := fun x => zs (fun y => if R x = true ∧ R y = false then cap n T x y else 0) 24) (n := 24) (k := a) (l := x) (fun x _ => zs_nn fun y _ => nn x y) (by omega) (by omega) (fun z => q z.symm)
        omega
    omega
  · intro hc
    have hD : ∃ R : Nat → Bool, ∀ x, R x = true ↔ conn (rrb n T U 0 (nI (pr a b))) a x := ⟨fun x => @decide _ (Classical.propDecidable (conn (rrb n T U 0 (nI (pr a b))) a x)), fun x => @decide_eq_true_iff _ (Classical.propDecidable _)⟩
    obtain ⟨R, hR⟩ := hD
    have h1 : R a = true := (hR a).mpr conn_refl
    have h2 : R b = false := Bool.eq_false_iff.mpr fun z => hc ((hR b).mp z)
    have e : cut n T R = 1 := by
      unfold cut
      have : ∀ x, x < 24 → zs (fun y => if R x = true ∧ R y = false then cap n T x y else 0) 24 = if x = a then 1 else 0 := fun x hx => by
        by_cases q : x = a
        · subst q
          rw [if_pos rfl]
          have : ∀ y, y < 24 → (if R x = true ∧ R y = false then cap n T x y else 0) = if y = b then 1 else 0 := fun y hy => by
            by_cases q2 : y = b
            · subst q2
              rw [if_pos ⟨h1, h2⟩, if_pos rfl]; unfold cap; rw [if_pos (tb_iff.mpr ht)]
            · rw [if_neg q2]
              by_cases q3 : R x = true ∧ R y = false
              · rw [if_pos q3]
                unfold cap
                refine if_neg fun z => ?_
                have hxy := tb_iff.mp z
                have := (hR y).mpr (conn_step ((hR x).mp q3.1) (rr x y hxy (fun w => q2 (by unfold pr at w; omega))))
                rw [q3.2] at this; exact absurd this (by decide)
              · rw [if_neg q3]
          rw [zs_congr this]
          exact zs_pick (g := fun _ => 1) (by omega)
        · rw [if_neg q]
          refine zs_zero fun y hy => ?_
          by_cases q3 : R x = true ∧ R y = false
          · rw [if_pos q3]
            unfold cap
            refine if_neg fun z => ?_
            have hxy := tb_iff.mp z
            by_cases w : pr x y = pr a b
            · have : x = b := by unfold pr at w; omega
              rw [this, h2] at q3; exact absurd q3.1 (by decide)
            · have := (hR y).mpr (conn_step ((hR x).mp q3.1) (rr x y hxy w))
              rw [q3.2] at this; exact absurd this (by decide)
          · rw [if_neg q3]
      rw [zs_congr this]
      exact zs_pick (g := fun _ => 1) (by omega)
    have := h.2 R h1 h2
    omega
end Bridge
/-- a sum goes on over what is 0 -/
theorem fs_skip {G : Nat → Int32} {Q Q' : Nat} (hQ : Q ≤ Q') (h : ∀ q, Q ≤ q → q < Q' → G q = 0) : fs G Q' = fs G Q := by
  obtain ⟨d, rfl⟩ : ∃ d, Q' = Q + d := ⟨Q' - Q, by omega⟩
  clear hQ
  induction d with
  | zero => rfl
  | succ d ih => rw [← Nat.add_assoc, fs, ih (fun q a b => h q a (by omega)), h (Q + d) (by omega) (by omega)]; exact Int32.add_zero _
def brg (n : Nat) (T U : Nat → Int32) (a b : Nat) : Prop := ¬ conn (rrb n T U 0 (nI (pr a b))) a b
/-- one answer for both -/
def brs (n : Nat) (T U : Nat → Int32) (p : Nat → Int32) (P : Int32) (G : Nat → Int32) : Prop := ∀ q, q < 576 → ((0 < T q ∧ p (q / 24) = P ∧ brg n T U (q / 24) (q % 24)) → G q = 1) ∧ (¬ (0 < T q ∧ p (q / 24) = P ∧ brg n T U (q / 24) (q % 24)) → G q = 0)
theorem brs_ex (n : Nat) (T U : Nat → Int32) (p : Nat → Int32) (P : Int32) : ∃ G, brs n T U p P G :=
  ⟨fun q => @ite _ (0 < T q ∧ p (q / 24) = P ∧ brg n T U (q / 24) (q % 24)) (Classical.propDecidable _) 1 0, fun q _ => ⟨fun h => if_pos h, fun h => if_neg h⟩⟩
section Single
variable {n m : Nat} {f s t u T U st us cb re p G is : Nat → Int32} {κ : Nat → Nat} {P : Int32}
theorem c_single (hn : n ≤ 24) (Q : QOK m f s t u κ T U) (hT : TOK n st T) (hl : ∀ q, q < 576 → 0 < T q → 0 ≤ T q - U q) (hG : brs n T U p P G) : ∃ us' cb' re', jX6_singleLashings p (nI m) f s us cb re P = some (fs G 576, us', cb', re') := by
  have hm := Q.1
  refine (itI0 (s0 := (us, cb, re, (0 : Int32))) (fun g (z : (Nat → Int32) × (Nat → Int32) × (Nat → Int32) × Int32) v => jX6_singleLashings_L13 p (nI m) f s P g z.1 z.2.1 z.2.2.1 z.2.2.2 v) m
    (fun i z => z.2.2.2 = fs (fun i => G (κ i)) i) (fun z => z.2.2.2 = fs (fun i => G (κ i)) m) (by omega) rfl (fun g z hz => ⟨z, by rw [jX6_singleLashings_L13, if_pos (Int32.le_refl _)], hz⟩) (fun g i z hi hz => ?_)).elim
    (fun r ⟨hr, e⟩ => ⟨r.1, r.2.1, r.2.2.1, ?_⟩)
  · obtain ⟨z1, z2, z3, z4⟩ := z
    dsimp only at hz ⊢
    subst hz
    obtain ⟨a, b, k1, k2, k3, hab, hbn, fa, sb, htie, hk⟩ := Q_pair hn Q hT hi
    have hk576 := (Q.2.1.1 i hi).1
    have h0 : 0 < T (κ i) := of_decide_eq_true (Q.2.1.1 i hi).2
    have g1 := hG _ hk576
    rw [k2, k3] at g1
    rw [jX6_singleLashings_L13, if_neg (fun q => by have := (nI_leI (by omega) (by omega)).mp q; omega), chk_n (by omega) (by omega), rd_n (by omega), rd_n (by omega), fa, sb, chk_n (by omega) (by omega), rd_n (by omega), nI_1]
    by_cases hp : p a = P
    · obtain ⟨v, us', cb', re', e, hv, hMF⟩ := c_countApart (us := z1) (cb := z2) (re := z3) hn Q hT (by omega : a < n) hbn (by omega)
      rw [if_pos hp, chk_n (by omega) (by omega), e, bnd_n]
      dsimp only
      have hb := MF_bridge hn hl htie hMF
      by_cases hv1 : v = 1
      · subst hv1
        rw [if_pos (by rfl)]
        refine ⟨(us', cb', re', fs (fun i => G (κ i)) i + 1), ?_, rfl⟩
        show _ = fs (fun i => G (κ i)) (i + 1)
        rw [fs, g1.1 ⟨h0, hp, hb.mp rfl⟩]
      · rw [if_neg (show ¬ nI v = 1 from fun z => hv1 ((nI_eq (b := 1) (by omega) (by omega)).mp z))]
        refine ⟨(us', cb', re', fs (fun i => G (κ i)) i), ?_, rfl⟩
        show _ = fs (fun i => G (κ i)) (i + 1)
        rw [fs, g1.2 (fun z => hv1 (by have := hb.mpr z.2.2; omega)), Int32.add_zero]
    · rw [if_neg hp]
      refine ⟨(z1, z2, z3, fs (fun i => G (κ i)) i), ?_, rfl⟩
      show _ = fs (fun i => G (κ i)) (i + 1)
      rw [fs, g1.2 (fun z => hp z.2.1), Int32.add_zero]
  · unfold jX6_singleLashings
    rw [hr, bnd_n, e, enu_fs (g := G) Q.2.1]
    have : fs (fun k => if (fun k => decide (0 < T k)) k = true then G k else 0) 576 = fs G 576 := fs_congr fun q hq => by
      by_cases h0 : 0 < T q
      · rw [if_pos (decide_eq_true h0)]
      · rw [if_neg (fun z => h0 (of_decide_eq_true z)), (hG q hq).2 (fun z => h0 z.1)]
    rw [this]
theorem r_single81 (hn : n ≤ 24) (hG : brs n T U p P G) {a bb : Nat} (ha : a < n) (hbb : bb < n) (hP : p bb = P) {sm : Int32} (hs : sm = fs G (24 * a + (a + 1))) : ∃ is' sm', jX7_piece_L81 (nI n) T U p (nI bb) (nI a) FU is sm (nI (a + 1)) = some (is', sm') ∧ sm' = fs G (24 * a + n) := by
  refine (itI (fun g (z : (Nat → Int32) × Int32) v => jX7_piece_L81 (nI n) T U p (nI bb) (nI a) g z.1 z.2 v) n (fun b z => a < b ∧ z.2 = fs G (24 * a + b)) (fun z => z.2 = fs G (24 * a + n)) (fun g z hz => ⟨z, by rw [jX7_piece_L81, if_pos (Int32.le_refl _)], hz.2⟩) (fun g b z hb hz => ?_) FU (a + 1) (is, sm) (by omega) (by unfold FU; omega) ⟨by omega, hs⟩).elim (fun r ⟨hr, e⟩ => ⟨r.1, r.2, hr, e⟩)
  obtain ⟨z1, z2⟩ := z
  obtain ⟨hab, hz⟩ := hz
  dsimp only at hz ⊢
  subst hz
  have g1 := hG (24 * a + b) (by omega)
  rw [show (24 * a + b) / 24 = a by omega, show (24 * a + b) % 24 = b by omega] at g1
  have hpr := pr_of hab
  have no : ∀ z' : Nat → Int32, G (24 * a + b) = 0 → a < b + 1 ∧ ((z', fs G (24 * a + b)) : (Nat → Int32) × Int32).2 = fs G (24 * a + (b + 1)) := fun z' h0 => ⟨by omega, by
    show fs G (24 * a + b) = fs G (24 * a + b + 1)
    rw [fs, h0, Int32.add_zero]⟩
  rw [jX7_piece_L81, if_neg (fun q => by have := (nI_leI (by omega) (by omega)).mp q; omega), chk_n (by omega) (by omega), chk_n (by omega) (by omega), rd_n (by omega), rd_n (by omega), hP, nI_1]
  by_cases hp : p a = P
  · rw [if_pos hp, r_tied (by omega) (by omega), bnd_n, hpr]
    by_cases ht : 0 < T (24 * a + b)
    · obtain ⟨r, is', e, hr⟩ := r_isReached (T := T) (U := U) (is := z1) (least := 0) (but := nI (24 * a + b)) hn ha hb
      rw [if_pos ht, if_neg one_ne, r_pair (by omega) (by omega), bnd_n, hpr, e, bnd_n]
      dsimp only
      rcases hr with ⟨rfl, hc⟩ | ⟨rfl, hc⟩
      · rw [if_neg one_ne]
        exact ⟨(is', fs G (24 * a + b)), no is' (g1.2 (fun z => z.2.2 (by rw [hpr]; exact hc))), rfl⟩
      · rw [if_pos rfl]
        refine ⟨(is', fs G (24 * a + b) + 1), ⟨by omega, ?_⟩, rfl⟩
        show _ = fs G (24 * a + b + 1)
        rw [fs, g1.1 ⟨ht, hp, by unfold brg; rw [hpr]; exact hc⟩]
    · rw [if_neg ht, if_pos rfl]
      exact ⟨(z1, fs G (24 * a + b)), no z1 (g1.2 (fun z => ht z.1)), rfl⟩
  · rw [if_neg hp]
    exact ⟨(z1, fs G (24 * a + b)), no z1 (g1.2 (fun z => hp z.2.1)), rfl⟩
theorem r_single (hn : n ≤ 24) (hT : TOK n st T) (hG : brs n T U p P G) {bb : Nat} (hbb : bb < n) (hP : p bb = P) : ∃ is', jX7_piece_L66 (nI n) T U p (nI bb) FU is 0 0 = some (is', fs G 576) := by
  have hz : ∀ q, q < 576 → (∀ a b, q = 24 * a + b → a < b → b < n → False) → G q = 0 := fun q hq no => by
    refine (hG q hq).2 (fun z => ?_)
    obtain ⟨a, b, h1, h2, h3, -⟩ := hT q hq (i_pos_ne z.1)
    exact no a b h1 h2 h3
  refine (itI0 (s0 := (is, (0 : Int32))) (fun g (z : (Nat → Int32) × Int32) v => jX7_piece_L66 (nI n) T U p (nI bb) g z.1 z.2 v) n (fun a z => z.2 = fs G (min 576 (24 * a + (a + 1)))) (fun z => z.2 = fs G (min 576 (24 * n + (n + 1)))) (by omega) ?_ (fun g z hz => ⟨z, by rw [jX7_piece_L66, if_pos (Int32.le_refl _)], hz⟩) (fun g a z ha hz' => ?_)).elim (fun r ⟨hr, e⟩ => ⟨r.1, ?_⟩)
  · show (0 : Int32) = fs G 1
    rw [fs_skip (Q := 0) (by omega) (fun q h1 h2 => hz q (by omega) (fun a b e h3 h4 => by omega))]; rfl
  · obtain ⟨z1, z2⟩ := z
    dsimp only at hz' ⊢
    rw [Nat.min_eq_right (by omega)] at hz'
    obtain ⟨is', sm', e, hs⟩ := r_single81 (is := z1) hn hG ha hbb hP hz'
    refine ⟨(is', sm'), ?_, by rw [jX7_piece_L66, if_neg (fun q => by have := (nI_leI (by omega) (by omega)).mp q; omega), nI_1, e, bnd_n]⟩
    dsimp only
    rw [hs]
    exact (fs_skip (by omega) (fun q h1 h2 => hz q (by omega) (fun c d e' h3 h4 => by omega))).symm
  · rw [hr, show r = (r.1, r.2) from rfl, e]
    rw [← fs_skip (G := G) (Q := min 576 (24 * n + (n + 1))) (Q' := 576) (by omega) (fun q h1 h2 => hz q (by omega) (fun c d e' h3 h4 => by omega))]
end Single
