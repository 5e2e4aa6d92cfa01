/-! who is reached by lashings that hold so much -/
def rrb (n : Nat) (T U : Nat → Int32) (least but : Int32) (x y : Nat) : Prop := Tie n T x y ∧ nI (pr x y) ≠ but ∧ least ≤ T (pr x y) - U (pr x y)
theorem rrb_symm {n : Nat} {T U : Nat → Int32} {least but : Int32} (x y : Nat) (h : rrb n T U least but x y) : rrb n T U least but y x := ⟨Tie_symm _ _ h.1, by rw [pr_comm]; exact h.2.1, by rw [pr_comm]; exact h.2.2⟩
def IS (n a : Nat) (R : Nat → Nat → Prop) (is : Nat → Int32) : Prop := (∀ x, x < 24 → is x = 0 ∨ is x = 1) ∧ is a = 1 ∧ ∀ x, x < n → is x = 1 → conn R a x
def icn (is : Nat → Int32) : Nat := ns (fun x => if is x = 1 then 1 else 0) 24
def IJ (n a : Nat) (R : Nat → Nat → Prop) (is0 : Nat → Int32) (c o : Nat) (is : Nat → Int32) (fl : Int32) : Prop :=
  IS n a R is ∧ ((fl = 0 ∧ is = is0 ∧ ∀ x y, (x < c ∨ (x = c ∧ y < o)) → x < n → y < n → is0 x = 1 → R x y → is0 y = 1) ∨ (fl = 1 ∧ icn is0 < icn is))
section Reach
variable {n a : Nat} {T U is : Nat → Int32} {least but : Int32}
theorem r_is3 (ha : a < 24) : jX7_isReached_L3 (nI a) FU is 0 = some (fun i => if i < 24 then (if i = a then 1 else 0) else is i) := by
  refine itF0 (fun g s v => jX7_isReached_L3 (nI a) g s v) (fun j i => if i < j then (if i = a then 1 else 0) else is i) 24 (by omega) (by simp) (fun g => ?_) (fun g j hj => ?_)
  · rw [jX7_isReached_L3, if_pos (by decide)]
  · have e : ∀ x : Int32, x = (if j = a then 1 else 0) → upd (fun i => if i < j then (if i = a then 1 else 0) else is i) j x = fun i => if i < j + 1 then (if i = a then 1 else 0) else is i := fun x hx => by
      funext i
      unfold upd
      by_cases hi : i = j
      · subst hi; rw [if_pos rfl, if_pos (by omega)]; exact hx
      · rw [if_neg hi]; simp only [p_lts hi]
    rw [jX7_isReached_L3, if_neg (fun q => by have := (nI_leI (a := 24) (by omega) (by omega)).mp q; omega), nI_1]
    by_cases q : j = a
    · rw [if_pos (by rw [q]), chk_n (by omega) (by omega), chkZ_b, wr_n (by omega), e 1 (by rw [if_pos q])]
    · rw [if_neg (fun z => q ((nI_eq (by omega) (by omega)).mp z)), chk_n (by omega) (by omega), chkZ_a, wr_n (by omega), e 0 (by rw [if_neg q])]
theorem r_is60 (hn : n ≤ 24) {is0 : Nat → Int32} {c : Nat} (hc : c < n) {is1 : Nat → Int32} {fl1 : Int32} (h : IJ n a (rrb n T U least but) is0 c 0 is1 fl1) :
    ∃ is' fl', jX7_isReached_L60 (nI n) T U least but (nI c) FU is1 fl1 0 = some (is', fl') ∧ IJ n a (rrb n T U least but) is0 (c + 1) 0 is' fl' := by
  have key : ∀ (g o : Nat) (is1 : Nat → Int32) (fl1 : Int32), o ≤ n → 30 < g + o → IJ n a (rrb n T U least but) is0 c o is1 fl1 → ∃ is' fl', jX7_isReached_L60 (nI n) T U least but (nI c) g is1 fl1 (nI o) = some (is', fl') ∧ IJ n a (rrb n T U least but) is0 (c + 1) 0 is' fl' := by
    intro g
    induction g with
    | zero => intro o is1 fl1 ho hg; omega
    | succ g ih =>
      intro o is1 fl1 ho hg h
      rw [jX7_isReached_L60]
      by_cases he : o = n
      · subst he
        rw [if_pos (Int32.le_refl _)]
        exact ⟨is1, fl1, rfl, h.1, h.2.imp (fun ⟨h1, h2, h3⟩ => ⟨h1, h2, fun x y hxy hx hy => h3 x y (by omega) hx hy⟩) id⟩
      · rw [if_neg (fun q => by have := (nI_leI (by omega) (by omega)).mp q; omega), chk_n (by omega) (by omega), rd_n (by omega)]
        rcases h.1.1 c (by omega) with hz | hz
        · rw [if_pos hz]
          refine ⟨is1, fl1, rfl, h.1, h.2.imp (fun ⟨h1, h2, h3⟩ => ⟨h1, h2, fun x y hxy hx hy h4 => ?_⟩) id⟩
          by_cases q : x = c
          · rw [q, ← h2, hz] at h4; exact absurd h4 (by decide)
          · exact h3 x y (by omega) hx hy h4
        · rw [hz, if_neg one_ne, r_pair (by omega) (by omega), bnd_n, nI_1]
          have skip : (¬ rrb n T U least but c o ∨ is1 o = 1) → IJ n a (rrb n T U least but) is0 c (o + 1) is1 fl1 := fun hs => ⟨h.1, h.2.imp (fun ⟨h1, h2, h3⟩ => ⟨h1, h2, fun x y hxy hx hy h4 h5 => by
            by_cases q : x = c ∧ y = o
            · rw [q.1, q.2] at h5
              rw [q.2, ← h2]
              exact hs.resolve_left (fun z => z h5)
            · exact h3 x y (by omega) hx hy h4 h5⟩) id⟩
          by_cases hoc : o = c
          · rw [if_pos (by rw [hoc])]
            exact ih (o + 1) is1 fl1 (by omega) (by omega) (skip (Or.inl (fun z => z.1.2.2.1 hoc.symm)))
          · rw [if_neg (fun z => hoc ((nI_eq (by omega) (by omega)).mp z)), chk_n (by omega) (by omega), rd_n (by omega)]
            rcases h.1.1 o (by omega) with ho0 | ho1
            · rw [if_pos ho0, r_tied (by omega) (by omega), bnd_n]
              by_cases ht : 0 < T (pr c o)
              · rw [if_pos ht, if_neg one_ne]
                by_cases hb : nI (pr c o) = but
                · rw [if_pos hb]
                  exact ih (o + 1) is1 fl1 (by omega) (by omega) (skip (Or.inl (fun z => z.2.1 hb)))
                · have hp := pr_lt (a := c) (b := o) (by omega) (by omega)
                  rw [if_neg hb, chk_n hp (by omega), chk_n hp (by omega), rd_n (by omega), rd_n (by omega)]
                  by_cases hl : least ≤ T (pr c o) - U (pr c o)
                  · rw [if_pos hl, chk_n (by omega) (by omega), chkZ_b, wr_n (by omega)]
                    have hR : rrb n T U least but c o := ⟨⟨hc, by omega, fun z => hoc z.symm, ht⟩, hb, hl⟩
                    have hlt : icn is1 < icn (upd is1 o 1) := by
                      refine ns_lt (k := o) (fun j hj => ?_) (by omega) ?_
                      · unfold upd
                        by_cases q : j = o
                        · rw [if_pos q, if_pos rfl]; split <;> omega
                        · rw [if_neg q]; exact Nat.le_refl _
                      · rw [upd_a, ho0]; decide
                    refine ih (o + 1) (upd is1 o 1) 1 (by omega) (by omega) ⟨⟨fun x hx => ?_, ?_, fun x hx h1 => ?_⟩, Or.inr ⟨rfl, ?_⟩⟩
                    · unfold upd
                      by_cases q : x = o
                      · rw [if_pos q]; exact Or.inr rfl
                      · rw [if_neg q]; exact h.1.1 x hx
                    · unfold upd
                      split
                      · rfl
                      · exact h.1.2.1
                    · by_cases q : x = o
                      · rw [q]; exact conn_step (h.1.2.2 c hc hz) hR
                      · rw [upd_b q] at h1; exact h.1.2.2 x hx h1
                    · rcases h.2 with ⟨-, h2, -⟩ | ⟨-, h2⟩
                      · rw [← h2]; exact hlt
                      · omega
                  · rw [if_neg hl]
                    exact ih (o + 1) is1 fl1 (by omega) (by omega) (skip (Or.inl (fun z => hl z.2.2)))
              · rw [if_neg ht, if_pos rfl]
                exact ih (o + 1) is1 fl1 (by omega) (by omega) (skip (Or.inl (fun z => ht z.1.2.2.2)))
            · rw [ho1, if_neg one_ne]
              exact ih (o + 1) is1 fl1 (by omega) (by omega) (skip (Or.inr ho1))
  exact key FU 0 is1 fl1 (by omega) (by unfold FU; omega) h
theorem r_is48 (hn : n ≤ 24) {is0 : Nat → Int32} (h : IS n a (rrb n T U least but) is0) : ∃ is' fl', jX7_isReached_L48 (nI n) T U least but FU is0 0 0 = some (is', fl') ∧ IJ n a (rrb n T U least but) is0 n 0 is' fl' := by
  refine (itI0 (s0 := (is0, (0 : Int32))) (fun g (z : (Nat → Int32) × Int32) v => jX7_isReached_L48 (nI n) T U least but g z.1 z.2 v) n (fun c z => IJ n a (rrb n T U least but) is0 c 0 z.1 z.2) (fun z => IJ n a (rrb n T U least but) is0 n 0 z.1 z.2) (by omega) ⟨h, Or.inl ⟨rfl, rfl, fun x y hxy => by omega⟩⟩ (fun g z hz => ⟨z, by rw [jX7_isReached_L48, if_pos (Int32.le_refl _)], hz⟩) (fun g c z hc hz => ?_)).elim (fun r ⟨hr, h⟩ => ⟨r.1, r.2, hr, h⟩)
  obtain ⟨z1, z2⟩ := z
  obtain ⟨is', fl', e, hJ⟩ := r_is60 hn hc hz
  refine ⟨(is', fl'), hJ, ?_⟩
  dsimp only
  rw [jX7_isReached_L48, if_neg (fun q => by have := (nI_leI (by omega) (by omega)).mp q; omega), e, bnd_n, nI_1]
theorem r_is37 (hn : n ≤ 24) : ∀ (g : Nat) (is0 : Nat → Int32), 25 < g + icn is0 → IS n a (rrb n T U least but) is0 → ∃ is', jX7_isReached_L37 (nI n) T U least but g is0 1 = some is' ∧ IS n a (rrb n T U least but) is' ∧ ∀ x y, is' x = 1 → rrb n T U least but x y → is' y = 1 := by
  intro g
  induction g with
  | zero =>
    intro is0 hg _
    have : icn is0 ≤ 24 := ns_le1
    omega
  | succ g ih =>
    intro is0 hg h
    have h24 : icn is0 ≤ 24 := ns_le1
    obtain ⟨is', fl', e, hI, ⟨h1, h2, h3⟩ | ⟨h1, h2⟩⟩ := r_is48 hn h
    · rw [jX7_isReached_L37, if_neg one_ne, e, bnd_n]
      dsimp only
      subst h1
      cases g with
      | zero => omega
      | succ g =>
        rw [jX7_isReached_L37, if_pos rfl]
        refine ⟨is', rfl, hI, fun x y hx hR => ?_⟩
        rw [h2] at hx ⊢
        exact h3 x y (Or.inl hR.1.1) hR.1.1 hR.1.2.1 hx hR
    · rw [jX7_isReached_L37, if_neg one_ne, e, bnd_n]
      dsimp only
      rw [h1]
      exact ih is' (by omega) hI
theorem r_isReached (hn : n ≤ 24) (ha : a < n) {b : Nat} (hb : b < n) : ∃ r is', jX7_isReached (nI n) T U is (nI a) (nI b) least but = some (r, is') ∧ ((r = 1 ∧ conn (rrb n T U least but) a b) ∨ (r = 0 ∧ ¬ conn (rrb n T U least but) a b)) := by
  obtain ⟨is', e, hI, hc⟩ := r_is37 (T := T) (U := U) (least := least) (but := but) (a := a) hn FU (fun i => if i < 24 then (if i = a then 1 else 0) else is i) (by unfold FU; omega)
    ⟨fun x hx => by dsimp only; rw [if_pos hx]; split <;> simp, by dsimp only; rw [if_pos (by omega), if_pos rfl], fun x hx h => by
      dsimp only at h
      rw [if_pos (by omega)] at h
      by_cases q : x = a
      · rw [q]; exact conn_refl
      · rw [if_neg q] at h; exact absurd h (by decide)⟩
  unfold jX7_isReached
  rw [r_is3 (by omega), bnd_n, e, bnd_n, chk_n (by omega) (by omega), rd_n (by omega)]
  rcases hI.1 b (by omega) with h | h
  · rw [h, chkZ_a]
    refine ⟨0, is', rfl, Or.inr ⟨rfl, fun z => ?_⟩⟩
    have := z (fun x => is' x = 1) hI.2.1 (fun x y hR hx => hc x y hx hR)
    rw [h] at this; exact absurd this (by decide)
  · rw [h, chkZ_b]
    exact ⟨1, is', rfl, Or.inl ⟨rfl, hI.2.2 b hb h⟩⟩
/-- the greatest threshold -/
def HO (n : Nat) (T U : Nat → Int32) (a b h : Nat) : Prop := h ≤ 50 ∧ ∀ i, 1 ≤ i → i ≤ 50 → (conn (rrb n T U (nI i) (-1)) a b ↔ i ≤ h)
theorem HO_one {T U : Nat → Int32} {n a b h h' : Nat} (g : HO n T U a b h) (g' : HO n T U a b h') : h = h' := by
  rcases Nat.lt_trichotomy h h' with q | q | q
  · have := (g.2 h' (by omega) g'.1).mp ((g'.2 h' (by omega) g'.1).mpr (Nat.le_refl _)); omega
  · exact q
  · have := (g'.2 h (by omega) g.1).mp ((g.2 h (by omega) g.1).mpr (Nat.le_refl _)); omega
theorem rr_mono {T U : Nat → Int32} {n a b i j : Nat} {but : Int32} (hij : i ≤ j) (hj : j < 2 ^ 31) (h : conn (rrb n T U (nI j) but) a b) : conn (rrb n T U (nI i) but) a b :=
  conn_mono (fun x y q => ⟨q.1, q.2.1, Int32.le_trans ((nI_leI (by omega) hj).mpr hij) q.2.2⟩) h
theorem r_holdL (hn : n ≤ 24) (ha : a < n) {b : Nat} (hb : b < n) (hab : a ≠ b) : ∀ (g h : Nat) (is : Nat → Int32), h ≤ 50 → 60 < g + h → (∀ i, 1 ≤ i → i ≤ h → conn (rrb n T U (nI i) (-1)) a b) → ∃ is' h', jX7_hold_L29 (nI n) T U (nI a) (nI b) g is (nI h) = some (is', nI h') ∧ HO n T U a b h' := by
  intro g
  induction g with
  | zero => intro h is h1 h2; omega
  | succ g ih =>
    intro h is h1 h2 h3
    rw [jX7_hold_L29, if_neg (fun z => hab ((nI_eq (by omega) (by omega)).mp z))]
    by_cases h50 : h = 50
    · subst h50
      rw [if_pos (by decide)]
      exact ⟨is, 50, rfl, by omega, fun i i1 i2 => ⟨fun _ => i2, fun _ => h3 i i1 i2⟩⟩
    · rw [if_neg (fun q => by have := (nI_leI (a := 50) (by omega) (by omega)).mp q; omega), nI_1]
      obtain ⟨r, is', e, hr⟩ := r_isReached (T := T) (U := U) (is := is) (least := nI (h + 1)) (but := -1) hn ha hb
      rw [e, bnd_n]
      dsimp only
      rcases hr with ⟨rfl, hc⟩ | ⟨rfl, hc⟩
      · rw [if_neg one_ne]
        refine ih (h + 1) is' (by omega) (by omega) (fun i i1 i2 => ?_)
        by_cases q : i = h + 1
        · rw [q]; exact hc
        · exact h3 i i1 (by omega)
      · rw [if_pos rfl]
        refine ⟨is', h, rfl, h1, fun i i1 i2 => ⟨fun z => ?_, fun z => h3 i i1 z⟩⟩
        rcases Nat.lt_or_ge h i with q | q
        · exact absurd (rr_mono (by omega) (by omega) z) hc
        · exact q
end Reach
section Strong
variable {n m a : Nat} {f s t u T U st be : Nat → Int32} {κ : Nat → Nat}
def BV (n : Nat) (T U : Nat → Int32) (a : Nat) (bv : Nat → Nat) (be : Nat → Int32) : Prop := (∀ x, x < 24 → be x = nI (bv x)) ∧ bv a = 50 ∧ ∀ x, bv x ≤ 50 ∧ (1 ≤ bv x → conn (rrb n T U (nI (bv x)) (-1)) a x)
/-- one round -/
theorem c_strL (hn : n ≤ 24) (Q : QOK m f s t u κ T U) (hT : TOK n st T) (hl : ∀ q, q < 576 → 0 < T q → 0 ≤ T q - U q) {bv0 : Nat → Nat} (h : BV n T U a bv0 be) :
    ∃ be' fl bv, jX5_strengthen_L4 (nI m) f s t u FU be 0 0 = some (be', fl) ∧ (fl = 0 ∨ fl = 1) ∧ BV n T U a bv be' ∧ (∀ x, bv0 x ≤ bv x) ∧ (fl = 0 → bv = bv0) ∧ ∀ i x y, i ≤ 50 → rrb n T U (nI i) (-1) x y → i ≤ bv0 x → i ≤ bv y := by
  have hm := Q.1
  refine (itI0 (s0 := (be, (0 : Int32))) (fun g (z : (Nat → Int32) × Int32) v => jX5_strengthen_L4 (nI m) f s t u g z.1 z.2 v) m
    (fun i z => ∃ bv, (z.2 = 0 ∨ z.2 = 1) ∧ BV n T U a bv z.1 ∧ (∀ x, bv0 x ≤ bv x) ∧ (z.2 = 0 → bv = bv0) ∧ ∀ j p q l, j < i → κ j = pr p q → p < n → q < n → p ≠ q → T (κ j) - U (κ j) = nI l → l < 2 ^ 31 → min l (bv0 p) ≤ bv q)
    (fun z => ∃ bv, (z.2 = 0 ∨ z.2 = 1) ∧ BV n T U a bv z.1 ∧ (∀ x, bv0 x ≤ bv x) ∧ (z.2 = 0 → bv = bv0) ∧ ∀ j p q l, j < m → κ j = pr p q → p < n → q < n → p ≠ q → T (κ j) - U (κ j) = nI l → l < 2 ^ 31 → min l (bv0 p) ≤ bv q) (by omega)
    ⟨bv0, Or.inl rfl, h, fun _ => Nat.le_refl _, fun _ => rfl, fun j p q l hj => by omega⟩ (fun g z hz => ⟨z, by rw [jX5_strengthen_L4, if_pos (Int32.le_refl _)], hz⟩) (fun g i z hi hz => ?_)).elim
    (fun r ⟨hr, bv, h1, h2, h3, h4, h5⟩ => ⟨r.1, r.2, bv, hr, h1, h2, h3, h4, fun i x y hi hR hx => ?_⟩)
  · obtain ⟨z1, z2⟩ := z
    obtain ⟨bv, h1, ⟨b1, b2, b3⟩, h3, h4, h5⟩ := hz
    dsimp only at h1 b1 h4 ⊢
    obtain ⟨p, q, k1, k2, k3, hpq, hqn, fp, sq, htie, hk⟩ := Q_pair hn Q hT hi
    obtain ⟨-, -, r3, r4⟩ := Q.2.2 i hi
    have hk576 := (Q.2.1.1 i hi).1
    have h0 : 0 < T (κ i) := of_decide_eq_true (Q.2.1.1 i hi).2
    obtain ⟨l, hl2, el⟩ := nI_of (x := T (κ i) - U (κ i)) (Int32.not_lt.mpr (hl _ hk576 h0))
    have bp := (b3 p).1
    have bq := (b3 q).1
    have eM : mmin (nI l) (mmax (z1 p) (z1 q)) = nI (min l (max (bv p) (bv q))) := by
      rw [b1 p (by omega), b1 q (by omega), mmax_n (by omega) (by omega), mmin_n hl2 (by omega)]
    have rr : ∀ i, i ≤ l → rrb n T U (nI i) (-1) p q := fun i hil => by
      refine ⟨htie, n_m1 (by have := pr_lt (a := p) (b := q) (by omega) (by omega); omega), ?_⟩
      rw [← hk, el]
      exact (nI_leI (by omega) hl2).mpr hil
    rw [jX5_strengthen_L4, if_neg (fun q => by have := (nI_leI (by omega) (by omega)).mp q; omega), chk_n (by omega) (by omega), chk_n (by omega) (by omega), c_left (by omega), bnd_n, r3, r4, el, rd_n (by omega), rd_n (by omega), fp, sq, chk_n (by omega) (by omega), chk_n (by omega) (by omega), chk_n (by omega) (by omega), jn_n, rd_n (by omega), rd_n (by omega), eM, nI_1]
    have hM : min l (max (bv p) (bv q)) ≤ 50 := by omega
    -- what this lashing leaves
    have fin : ∀ (bv' : Nat → Nat) (z' : Nat → Int32) (fl' : Int32), (fl' = 0 ∨ fl' = 1) → (fl' = 0 → z2 = 0 ∧ bv' = bv) → (∀ x, x < 24 → z' x = nI (bv' x)) → (∀ x, bv x ≤ bv' x) → bv' a = 50 → (∀ x, bv' x ≤ 50 ∧ (1 ≤ bv' x → conn (rrb n T U (nI (bv' x)) (-1)) a x)) → min l (max (bv p) (bv q)) ≤ bv' p → min l (max (bv p) (bv q)) ≤ bv' q →
        ∃ bv', (fl' = 0 ∨ fl' = 1) ∧ BV n T U a bv' z' ∧ (∀ x, bv0 x ≤ bv' x) ∧ (fl' = 0 → bv' = bv0) ∧ ∀ j p q l, j < i + 1 → κ j = pr p q → p < n → q < n → p ≠ q → T (κ j) - U (κ j) = nI l → l < 2 ^ 31 → min l (bv0 p) ≤ bv' q := fun bv' z' fl' g1 g2 g3 g4 g5 g6 g7 g8 => by
      refine ⟨bv', g1, ⟨g3, g5, g6⟩, fun x => Nat.le_trans (h3 x) (g4 x), fun hf => ?_, fun j p' q' l' hj e1 e2 e3 e4 e5 e6 => ?_⟩
      · obtain ⟨y1, y2⟩ := g2 hf
        rw [y2]; exact h4 y1
      · by_cases w : j = i
        · subst w
          obtain rfl := (nI_eq e6 hl2).mp (e5.symm.trans el)
          have o1 := h3 p
          have o2 := h3 q
          rcases pr_cases (e1.symm.trans k1) hpq (by omega) (by omega) (by omega) with ⟨rfl, rfl⟩ | ⟨rfl, rfl⟩
          · omega
          · omega
        · have := h5 j p' q' l' (by omega) e1 e2 e3 e4 e5 e6
          have := g4 q'
          omega
    have hset : ∀ (bv' : Nat → Nat) (z' : Nat → Int32) (c : Nat), (∀ x, x < 24 → z' x = nI (bv' x)) → ∀ x, x < 24 → upd z' c (nI (min l (max (bv p) (bv q)))) x = nI (un bv' c (min l (max (bv p) (bv q))) x) := fun bv' z' c hz x hx => by
      by_cases w : x = c
      · rw [w, upd_a, un_a]
      · rw [upd_b w, un_b w]; exact hz x hx
    by_cases c1 : min l (max (bv p) (bv q)) ≤ bv p
    · rw [if_pos (by rw [b1 p (by omega)]; exact (nI_leI (by omega) (by omega)).mpr c1)]
      dsimp only
      rw [chk_n (by omega) (by omega), rd_n (by omega)]
      by_cases c2 : min l (max (bv p) (bv q)) ≤ bv q
      · rw [if_pos (by rw [b1 q (by omega)]; exact (nI_leI (by omega) (by omega)).mpr c2)]
        exact ⟨(z1, z2), fin bv z1 z2 h1 (fun w => ⟨w, rfl⟩) b1 (fun _ => Nat.le_refl _) b2 b3 c1 c2, rfl⟩
      · rw [if_neg (fun w => by rw [b1 q (by omega)] at w; exact c2 ((nI_leI (by omega) (by omega)).mp w)), chk_n (by omega) (by omega), wr_n (by omega)]
        have hqa : q ≠ a := fun w => by rw [w, b2] at c2; omega
        refine ⟨(upd z1 q (nI (min l (max (bv p) (bv q)))), 1), fin (un bv q (min l (max (bv p) (bv q)))) _ 1 (Or.inr rfl) (fun w => absurd w (by decide)) (hset bv z1 q b1) (fun x => ?_) (by rw [un_b (fun w => hqa w.symm)]; exact b2) (fun x => ?_) (by rw [un_b (by omega)]; exact c1) (by rw [un_a]; exact Nat.le_refl _), rfl⟩
        · by_cases w : x = q
          · rw [w, un_a]; omega
          · rw [un_b w]; exact Nat.le_refl _
        · by_cases w : x = q
          · rw [w, un_a]
            exact ⟨hM, fun _ => conn_step (rr_mono (by omega) (by omega) ((b3 p).2 (by omega))) (rr _ (by omega))⟩
          · rw [un_b w]; exact b3 x
    · rw [if_neg (fun w => by rw [b1 p (by omega)] at w; exact c1 ((nI_leI (by omega) (by omega)).mp w)), chk_n (by omega) (by omega), wr_n (by omega)]
      dsimp only
      rw [chk_n (by omega) (by omega), rd_n (by omega), upd_b (by omega : q ≠ p)]
      have c2 : min l (max (bv p) (bv q)) ≤ bv q := by omega
      have hpa : p ≠ a := fun w => by rw [w, b2] at c1; omega
      rw [if_pos (by rw [b1 q (by omega)]; exact (nI_leI (by omega) (by omega)).mpr c2)]
      refine ⟨(upd z1 p (nI (min l (max (bv p) (bv q)))), 1), fin (un bv p (min l (max (bv p) (bv q)))) _ 1 (Or.inr rfl) (fun w => absurd w (by decide)) (hset bv z1 p b1) (fun x => ?_) (by rw [un_b (fun w => hpa w.symm)]; exact b2) (fun x => ?_) (by rw [un_a]; exact Nat.le_refl _) (by rw [un_b (by omega)]; exact c2), rfl⟩
      · by_cases w : x = p
        · rw [w, un_a]; omega
        · rw [un_b w]; exact Nat.le_refl _
      · by_cases w : x = p
        · rw [w, un_a]
          exact ⟨hM, fun _ => conn_step (rr_mono (by omega) (by omega) ((b3 q).2 (by omega))) (rrb_symm _ _ (rr _ (by omega)))⟩
        · rw [un_b w]; exact b3 x
  · obtain ⟨j, hj, hk⟩ := Q_idx hn Q hR.1
    have hk576 := (Q.2.1.1 j hj).1
    have h0 : 0 < T (κ j) := of_decide_eq_true (Q.2.1.1 j hj).2
    obtain ⟨l, hl2, el⟩ := nI_of (x := T (κ j) - U (κ j)) (Int32.not_lt.mpr (hl _ hk576 h0))
    have := h5 j x y l hj hk hR.1.1 hR.1.2.1 hR.1.2.2.1 el hl2
    have hle := hR.2.2
    rw [← hk, el] at hle
    have := (nI_leI (by omega) hl2).mp hle
    omega
def cmpl (n : Nat) (T U : Nat → Int32) (a : Nat) (bv : Nat → Nat) (i : Nat) : Prop := ∀ x, conn (rrb n T U (nI i) (-1)) a x → i ≤ bv x
theorem c_str22 (hn : n ≤ 24) (Q : QOK m f s t u κ T U) (hT : TOK n st T) (hl : ∀ q, q < 576 → 0 < T q → 0 ≤ T q - U q) : ∀ (g r : Nat) (be : Nat → Int32) (fl : Int32) (bv : Nat → Nat), 30 < g + r → r ≤ 24 → (fl = 0 ∨ fl = 1) → BV n T U a bv be → (fl = 0 → ∀ i, i ≤ 50 → cmpl n T U a bv i) → (∀ i, i ≤ 50 → cmpl n T U a bv i ∨ r + 1 ≤ ns (fun x => if i ≤ bv x then 1 else 0) 24) →
    ∃ be' bv', jX5_strongest_L22 (nI m) f s t u g be fl (nI r) = some be' ∧ BV n T U a bv' be' ∧ ∀ i, i ≤ 50 → cmpl n T U a bv' i := by
  intro g
  induction g with
  | zero => intro r be fl bv h1 h2; omega
  | succ g ih =>
    intro r be fl bv hg hr hfl hB hz hc
    rw [jX5_strongest_L22]
    by_cases h24 : r = 24
    · subst h24
      rw [if_pos (by decide)]
      refine ⟨be, bv, rfl, hB, fun i hi => (hc i hi).resolve_right (fun w => ?_)⟩
      have : ns (fun x => if i ≤ bv x then 1 else 0) 24 ≤ 24 := ns_le1
      omega
    · rw [if_neg (fun q => by have := (nI_leI (a := 24) (by omega) (by omega)).mp q; omega)]
      rcases hfl with rfl | rfl
      · rw [if_pos rfl]
        exact ⟨be, bv, rfl, hB, hz rfl⟩
      · rw [if_neg one_ne]
        obtain ⟨be', fl', bv', e, f1, f2, f3, f4, f5⟩ := c_strL hn Q hT hl hB
        have e2 : jX5_strengthen be (nI m) f s t u = some (fl', be') := by
          unfold jX5_strengthen
          rw [e, bnd_n]
          rcases f1 with rfl | rfl
          · exact chkZ_a
          · exact chkZ_b
        rw [e2, bnd_n, nI_1]
        have closed : ∀ i, i ≤ 50 → (∀ x y, rrb n T U (nI i) (-1) x y → i ≤ bv x → i ≤ bv y) → cmpl n T U a bv i := fun i hi hcl x hx => hx (fun z => i ≤ bv z) (by rw [hB.2.1]; exact hi) hcl
        refine ih (r + 1) be' fl' bv' (by omega) (by omega) f1 f2 (fun h0 i hi => ?_) (fun i hi => ?_)
        · have := f4 h0
          rw [this] at f5 ⊢
          exact closed i hi (fun x y hR hx => f5 i x y hi hR hx)
        · by_cases hcl : ∀ x y, rrb n T U (nI i) (-1) x y → i ≤ bv x → i ≤ bv y
          · exact Or.inl (fun x hx => Nat.le_trans (closed i hi hcl x hx) (f3 x))
          · rcases hc i hi with w | w
            · exact Or.inl (fun x hx => Nat.le_trans (w x hx) (f3 x))
            · refine Or.inr ?_
              have : ∃ x y, rrb n T U (nI i) (-1) x y ∧ i ≤ bv x ∧ ¬ i ≤ bv y := by
                refine Classical.byContradiction fun no => hcl fun x y hR hx => ?_
                exact Classical.byContradiction fun ny => no ⟨x, y, hR, hx, ny⟩
              obtain ⟨x, y, hR, hx, hy⟩ := this
              have hy' := f5 i x y hi hR hx
              have := ns_lt (g := fun x => if i ≤ bv x then 1 else 0) (h := fun x => if i ≤ bv' x then 1 else 0) (n := 24) (k := y) (fun j _ => by
                have := f3 j
                by_cases w2 : i ≤ bv j
                · rw [if_pos w2, if_pos (by omega)]; exact Nat.le_refl _
                · rw [if_neg w2]; omega) (by have := hR.1.2.1; omega) (by rw [if_neg hy, if_pos hy']; omega)
              omega
theorem c_strongest (hn : n ≤ 24) (Q : QOK m f s t u κ T U) (hT : TOK n st T) (hl : ∀ q, q < 576 → 0 < T q → 0 ≤ T q - U q) (ha : a < n) {b : Nat} (hb : b < n) : ∃ be' h, jX5_strongest be (nI m) f s t u (nI a) (nI b) = some (nI h, be') ∧ HO n T U a b h := by
  obtain ⟨be', bv', e, h1, h2⟩ := c_str22 (a := a) hn Q hT hl FU 0 (upd (fun i => if i < 24 then 0 else be i) a 50) 1 (un (fun _ => 0) a 50) (by unfold FU; omega) (by omega) (Or.inr rfl)
    ⟨fun x hx => by
      by_cases q : x = a
      · rw [q, upd_a, un_a]; rfl
      · rw [upd_b q, un_b q, if_pos hx]; rfl, un_a, fun x => by
      by_cases q : x = a
      · rw [q, un_a]; exact ⟨Nat.le_refl _, fun _ => conn_refl⟩
      · rw [un_b q]; exact ⟨by omega, fun z => by omega⟩⟩ (fun z => absurd z (by decide)) (fun i hi => Or.inr (by
      have := ns_lt (g := fun _ => 0) (h := fun x => if i ≤ un (fun _ => 0) a 50 x then 1 else 0) (n := 24) (k := a) (fun j _ => by omega) (by omega) (by rw [un_a, if_pos hi]; omega)
      omega))
  refine ⟨be', bv' b, ?_, (h1.2.2 b).1, fun i i1 i2 => ⟨fun z => h2 i i2 b z, fun z => rr_mono z (by have := (h1.2.2 b).1; omega) ((h1.2.2 b).2 (by omega))⟩⟩
  unfold jX5_strongest
  rw [c_fill (by omega), bnd_n, chk_n (by omega) (by omega), wr_n (by omega)]
  rw [show jX5_strongest_L22 (nI m) f s t u FU (upd (fun i => if i < 24 then 0 else be i) a 50) 1 0 = some be' from e, bnd_n, chk_n (by omega) (by omega), rd_n (by omega), h1.1 b (by omega)]
end Strong
