/-! lashings kept in their order -/
theorem enu_0 {K : Nat → Bool} {ι : Nat → Nat} : enu ι 0 K 0 := ⟨fun i hi => absurd hi (Nat.not_lt_zero i), fun _ j _ hj => absurd hj (Nat.not_lt_zero j), fun k hk _ => absurd hk (Nat.not_lt_zero k)⟩
theorem enu_keep {K : Nat → Bool} {ι : Nat → Nat} {c j : Nat} (h : enu ι c K j) (hk : K j = true) : enu (uN ι c j) (c + 1) K (j + 1) := by
  refine ⟨fun i hi => ?_, fun a b hab hb => ?_, fun l hl hK => ?_⟩
  · by_cases q : i = c
    · rw [q, uN_a]
      exact ⟨by omega, hk⟩
    · rw [uN_b q]
      obtain ⟨x, y⟩ := h.1 i (by omega)
      exact ⟨by omega, y⟩
  · rw [uN_b (show a ≠ c by omega)]
    by_cases q : b = c
    · rw [q, uN_a]
      exact (h.1 a (by omega)).1
    · rw [uN_b q]
      exact h.2.1 a b hab (by omega)
  · by_cases q : l = j
    · exact ⟨c, by omega, by rw [uN_a, q]⟩
    · obtain ⟨i, hi, e⟩ := h.2.2 l (by omega) hK
      exact ⟨i, by omega, by rw [uN_b (by omega)]; exact e⟩
theorem enu_drop {K : Nat → Bool} {ι : Nat → Nat} {c j : Nat} (h : enu ι c K j) (hk : K j = false) : enu ι c K (j + 1) := by
  refine ⟨fun i hi => ?_, h.2.1, fun l hl hK => ?_⟩
  · obtain ⟨x, y⟩ := h.1 i hi
    exact ⟨by omega, y⟩
  · by_cases q : l = j
    · rw [q, hk] at hK
      exact absurd hK (by decide)
    · exact h.2.2 l (by omega) hK
theorem enu_congr {P Q : Nat → Bool} {κ : Nat → Nat} {m N : Nat} (e : ∀ l, l < N → P l = Q l) (h : enu κ m P N) : enu κ m Q N :=
  ⟨fun i hi => ⟨(h.1 i hi).1, by rw [← e _ (h.1 i hi).1]; exact (h.1 i hi).2⟩, h.2.1, fun l hl hQ => h.2.2 l hl (by rw [e l hl]; exact hQ)⟩
/-- of the first j lashings those of K are kept -/
def KP (sg : Nat → Nat) (K : Nat → Bool) (j : Nat) (x : Nat × (Nat → Nat)) : Prop := ∃ ι, enu ι x.1 K j ∧ ∀ i, i < x.1 → x.2 i = sg (ι i)
theorem KP_0 {sg : Nat → Nat} {K : Nat → Bool} {f : Nat → Nat} : KP sg K 0 (0, f) := ⟨fun _ => 0, enu_0, fun i hi => absurd hi (Nat.not_lt_zero i)⟩
theorem KP_keep {sg : Nat → Nat} {K : Nat → Bool} {c j : Nat} {s : Nat → Nat} (h : KP sg K j (c, s)) (hk : K j = true) : KP sg K (j + 1) (c + 1, uN s c (sg j)) := by
  obtain ⟨ι, h1, h2⟩ := h
  refine ⟨uN ι c j, enu_keep h1 hk, fun i hi => ?_⟩
  show uN s c (sg j) i = sg (uN ι c j i)
  by_cases q : i = c
  · rw [q, uN_a, uN_a]
  · rw [uN_b q, uN_b q]
    exact h2 i (by have : i < c + 1 := hi; omega)
theorem KP_drop {sg : Nat → Nat} {K : Nat → Bool} {j : Nat} {x : Nat × (Nat → Nat)} (h : KP sg K j x) (hk : K j = false) : KP sg K (j + 1) x := by
  obtain ⟨ι, h1, h2⟩ := h
  exact ⟨ι, enu_drop h1 hk, h2⟩
theorem KP_le {sg : Nat → Nat} {K : Nat → Bool} {j : Nat} {x : Nat × (Nat → Nat)} (h : KP sg K j x) : x.1 ≤ j := by
  obtain ⟨ι, h1, -⟩ := h
  exact enu_m h1
theorem KP_lt {sg : Nat → Nat} {K : Nat → Bool} {j N : Nat} {x : Nat × (Nat → Nat)} (h : KP sg K j x) (hs : ∀ i, i < j → sg i < N) : ∀ i, i < x.1 → x.2 i < N := by
  obtain ⟨ι, h1, h2⟩ := h
  intro i hi
  rw [h2 i hi]
  exact hs _ (h1.1 i hi).1
theorem QOK_kept {m m' : Nat} {sg s' κ : Nat → Nat} {K : Nat → Bool} {tF tF' : Nat → Nat → Int32} {T U T' U' : Nat → Int32}
    (Q : QOK m (fun i => tF (sg i) 0) (fun i => tF (sg i) 1) (fun i => tF (sg i) 2) (fun i => tF (sg i) 3) κ T U) (h : KP sg K m (m', s')) (hT : ∀ i, i < m → (K i = true ↔ 0 < T' (κ i))) (hq : ∀ q, q < 576 → 0 < T' q → 0 < T q)
    (hv : ∀ i, i < m → K i = true → tF' (sg i) 0 = tF (sg i) 0 ∧ tF' (sg i) 1 = tF (sg i) 1 ∧ tF' (sg i) 2 = T' (κ i) ∧ tF' (sg i) 3 = U' (κ i)) :
    ∃ κ', QOK m' (fun i => tF' (s' i) 0) (fun i => tF' (s' i) 1) (fun i => tF' (s' i) 2) (fun i => tF' (s' i) 3) κ' T' U' ∧ m' ≤ m := by
  obtain ⟨hm, e, hr⟩ := Q
  obtain ⟨ι, h1, h2⟩ := h
  have le : m' ≤ m := enu_m h1
  refine ⟨fun i => κ (ι i), ⟨by omega, enu_comp (Q := fun l => decide (0 < T' l)) e (enu_congr (fun l hl => Bool.eq_iff_iff.mpr ((hT l hl).trans decide_eq_true_iff.symm)) h1) (fun l hl z => decide_eq_true (hq l hl (of_decide_eq_true z))), fun i hi => ?_⟩, le⟩
  obtain ⟨hj, hK⟩ := h1.1 i hi
  obtain ⟨v1, v2, v3, v4⟩ := hv (ι i) hj hK
  have h3 : s' i = sg (ι i) := h2 i hi
  obtain ⟨r1, r2, -, -⟩ := hr (ι i) hj
  dsimp only
  exact ⟨by rw [h3, v1]; exact r1, by rw [h3, v2]; exact r2, by rw [h3, v3], by rw [h3, v4]⟩
section SMe
variable {n k m nR : Nat} {A : Nat → Nat → Int32} {sg κ : Nat → Nat} {bF tF pF : Nat → Nat → Int32} {p : Nat → Int32}
theorem s_end55 {f : Int32} {b : Nat} (hb : b < 24) : jS_end_L55 f (nI b) k 0 pF = some (fun c => if c < k ∧ pF c 0 = nI b then upd (upd (pF c) 0 (-1)) 1 f else pF c) := by
  refine itNF (fun g j s => jS_end_L55 f (nI b) g j s) (fun j c => if c < j ∧ pF c 0 = nI b then upd (upd (pF c) 0 (-1)) 1 f else pF c) k ?_ rfl (fun g j hj => ?_)
  · funext c
    rw [if_neg (fun q => absurd q.1 (Nat.not_lt_zero c))]
  · have e : (if j < j ∧ pF j 0 = nI b then upd (upd (pF j) 0 (-1)) 1 f else pF j) = pF j := if_neg (fun q => absurd q.1 (Nat.lt_irrefl j))
    rw [jS_end_L55, rd0]
    try dsimp only
    rw [e]
    by_cases q : pF j 0 = nI b
    · rw [if_pos q]
      congr 1
      funext c
      rw [wr0, wr1]
      unfold uF
      by_cases z : c = j
      · subst z
        simp [q, e]
      · simp only [if_neg z, p_lts z]
    · rw [if_neg q]
      congr 1
      funext c
      by_cases z : c = j
      · subst z
        rw [if_neg (fun y => q y.2), if_neg (fun y => q y.2)]
      · simp only [p_lts z]
def Eb (E : Nat → Bool) (j : Nat) : Nat → Bool := fun i => decide (i < j) && E i
theorem Eb_s {E : Nat → Bool} {j i : Nat} (h : i ≠ j) : Eb E (j + 1) i = Eb E j i := by
  unfold Eb
  simp only [p_lts h]
theorem Eb_j {E : Nat → Bool} {j : Nat} : Eb E j j = false := by
  unfold Eb
  simp
theorem Eb_t {E : Nat → Bool} {j : Nat} : Eb E (j + 1) j = E j := by
  unfold Eb
  simp
theorem Eb_n {E : Nat → Bool} {j : Nat} (h : E j = false) : Eb E (j + 1) = Eb E j := by
  funext i
  by_cases q : i = j
  · rw [q, Eb_t, Eb_j, h]
  · exact Eb_s q
/-- barrels and crew of A -/
def SB (n k : Nat) (A : Nat → Nat → Int32) (x : (Nat → Nat → Int32) × (Nat → Nat → Int32)) : Prop :=
  (∀ j, j < n → x.1 j 2 = A kB_lift j ∧ x.1 j 3 = A kB_leak j ∧ x.1 j 4 = A kB_water j ∧ x.1 j 5 = A kB_goods j ∧ x.1 j 6 = A kB_state j ∧ x.1 j 7 = A kB_x j ∧ x.1 j 8 = A kB_y j) ∧ ∀ c, c < k → x.2 c 0 = A kK_seat c ∧ x.2 c 1 = A kK_state c
theorem e_go {E : Nat → Bool} {f : Int32} {i : Nat} : endA E f A kB_goods i = if E i = true ∧ f = 1 then 0 else A kB_goods i := rfl
theorem e_st {E : Nat → Bool} {f : Int32} {i : Nat} : endA E f A kB_state i = if E i = true then f else A kB_state i := rfl
theorem e_se {E : Nat → Bool} {f : Int32} {c : Nat} : endA E f A kK_seat c = if onE E (A kK_seat c) = true then -1 else A kK_seat c := rfl
theorem e_ks {E : Nat → Bool} {f : Int32} {c : Nat} : endA E f A kK_state c = if onE E (A kK_seat c) = true then f else A kK_state c := rfl
theorem s_endB {E : Nat → Bool} {f : Int32} {is : Nat → Int32} (hW : WA n k A) (hB : SB n k A (bF, pF)) (hE : ∀ j, E j = true → j < n) (hi : ∀ j, j < n → is j = if E j = true then 1 else 0) : ∃ r, jS_end_L2 f is n k n 0 bF pF = some r ∧ SB n k (endA E f A) r := by
  obtain ⟨hn, hk, -, hs, -⟩ := hW
  refine itN0 (fun g j (s : (Nat → Nat → Int32) × (Nat → Nat → Int32)) => jS_end_L2 f is n k g j s.1 s.2) n (fun j s => SB n k (endA (Eb E j) f A) s) (fun r => SB n k (endA E f A) r) (s0 := (bF, pF)) ?_ (fun s h => ⟨s, rfl, ?_⟩) (fun g j s hj h => ?_)
  · rw [show Eb E 0 = fun _ => false from funext fun i => by unfold Eb; simp, endA_none]
    exact hB
  · rw [show Eb E n = E from funext fun i => by
      unfold Eb
      by_cases q : E i = true
      · rw [q, decide_eq_true (hE i q)]; rfl
      · rw [Bool.eq_false_iff.mpr q, Bool.and_false]] at h
    exact h
  · obtain ⟨b, p⟩ := s
    obtain ⟨h1, h2⟩ := h
    dsimp only at h1 h2 ⊢
    rw [jS_end_L2, rd_n (by omega), hi j hj]
    by_cases q : E j = true
    · have q2 : Eb E (j + 1) j = true := Eb_t.trans q
      have hp : ∀ c, c < k → (if c < k ∧ p c 0 = nI j then upd (upd (p c) 0 (-1)) 1 f else p c) 0 = endA (Eb E (j + 1)) f A kK_seat c ∧ (if c < k ∧ p c 0 = nI j then upd (upd (p c) 0 (-1)) 1 f else p c) 1 = endA (Eb E (j + 1)) f A kK_state c := fun c hc => by
        obtain ⟨g1, g2⟩ := h2 c hc
        rw [e_se] at g1
        rw [e_ks] at g2
        rw [e_se, e_ks]
        rcases hs c hc with z | ⟨d, hd, z, -⟩
        · rw [z, onE_m1] at g1 g2 ⊢
          simp only [Bool.false_eq_true, if_false] at g1 g2 ⊢
          rw [g1, if_neg (fun y => n_m1 (by omega) y.2.symm)]
          exact ⟨g1, g2⟩
        · rw [z, onE_n (by omega)] at g1 g2 ⊢
          by_cases y : d = j
          · rw [y, q2, if_pos rfl, if_pos rfl]
            rw [y, Eb_j, if_neg (by decide)] at g1
            rw [if_pos ⟨hc, g1⟩]
            exact ⟨by rw [upd_b (by decide), upd_a], upd_a⟩
          · rw [Eb_s y]
            rw [if_neg (fun w => by
              have w2 := w.2
              rw [g1] at w2
              by_cases v : Eb E j d = true
              · rw [if_pos v] at w2
                exact n_m1 (by omega) w2.symm
              · rw [if_neg v] at w2
                exact y ((nI_eq (by omega) (by omega)).mp w2))]
            exact ⟨g1, g2⟩
      obtain ⟨b2, b3, b4, b5, b6, b7, b8⟩ := h1 j hj
      have hx : ∀ (b' : Nat → Nat → Int32), (∀ i, i ≠ j → b' i = b i) → b' j 2 = b j 2 ∧ b' j 3 = b j 3 ∧ b' j 4 = b j 4 ∧ b' j 7 = b j 7 ∧ b' j 8 = b j 8 → b' j 6 = f → b' j 5 = (if f = 1 then 0 else b j 5) → ∀ i, i < n → b' i 2 = endA (Eb E (j + 1)) f A kB_lift i ∧ b' i 3 = endA (Eb E (j + 1)) f A kB_leak i ∧ b' i 4 = endA (Eb E (j + 1)) f A kB_water i ∧ b' i 5 = endA (Eb E (j + 1)) f A kB_goods i ∧ b' i 6 = endA (Eb E (j + 1)) f A kB_state i ∧ b' i 7 = endA (Eb E (j + 1)) f A kB_x i ∧ b' i 8 = endA (Eb E (j + 1)) f A kB_y i := fun b' y1 y2 y3 y4 i hi2 => by
        by_cases y : i = j
        · rw [y]
          obtain ⟨z2, z3, z4, z7, z8⟩ := y2
          refine ⟨z2.trans b2, z3.trans b3, z4.trans b4, ?_, ?_, z7.trans b7, z8.trans b8⟩
          · rw [y4, b5, e_go, e_go, Eb_j, q2]
            by_cases v : f = 1
            · rw [if_pos v, if_pos ⟨rfl, v⟩]
            · rw [if_neg v, if_neg (fun w => v w.2), if_neg (fun w => v w.2)]
          · rw [y3, e_st, q2, if_pos rfl]
        · rw [y1 i y]
          obtain ⟨z2, z3, z4, z5, z6, z7, z8⟩ := h1 i hi2
          refine ⟨z2, z3, z4, ?_, ?_, z7, z8⟩
          · rw [z5, e_go, e_go, Eb_s y]
          · rw [z6, e_st, e_st, Eb_s y]
      rw [if_pos q, if_neg one_ne, chk_n (by omega) (by omega)]
      simp only [jn_n, clamp_n (show j < 2 ^ 31 by omega)]
      by_cases v : f = 1
      · rw [if_pos v, chk_n (by omega) (by omega), chkP_n hk, s_end55 (by omega), bnd_n]
        refine ⟨(uF (uF b j (wr (b j) 6 f)) j (wr (uF b j (wr (b j) 6 f) j) 5 0), fun c => if c < k ∧ p c 0 = nI j then upd (upd (p c) 0 (-1)) 1 f else p c), ⟨?_, hp⟩, rfl⟩
        dsimp only
        refine hx _ (fun i y => by rw [uF_b y, uF_b y]) ?_ ?_ ?_
        · rw [uF_a, uF_a, wr5, wr6]
          exact ⟨by rw [upd_b (by decide), upd_b (by decide)], by rw [upd_b (by decide), upd_b (by decide)], by rw [upd_b (by decide), upd_b (by decide)], by rw [upd_b (by decide), upd_b (by decide)], by rw [upd_b (by decide), upd_b (by decide)]⟩
        · rw [uF_a, uF_a, wr5, wr6, upd_b (by decide), upd_a]
        · rw [uF_a, uF_a, wr5, upd_a, if_pos v]
      · rw [if_neg v, chkP_n hk, s_end55 (by omega), bnd_n]
        refine ⟨(uF b j (wr (b j) 6 f), fun c => if c < k ∧ p c 0 = nI j then upd (upd (p c) 0 (-1)) 1 f else p c), ⟨?_, hp⟩, rfl⟩
        dsimp only
        refine hx _ (fun i y => by rw [uF_b y]) ?_ ?_ ?_
        · rw [uF_a, wr6]
          exact ⟨upd_b (by decide), upd_b (by decide), upd_b (by decide), upd_b (by decide), upd_b (by decide)⟩
        · rw [uF_a, wr6, upd_a]
        · rw [uF_a, wr6, upd_b (by decide), if_neg v]
    · rw [if_neg q, if_pos rfl]
      refine ⟨(b, p), ?_, rfl⟩
      rw [Eb_n (Bool.eq_false_iff.mpr q)]
      exact ⟨h1, h2⟩
theorem s_end {E : Nat → Bool} {f : Int32} {is : Nat → Int32} (h : SM n k m A nR sg κ bF tF pF) (hW : WA n k A) (hE : ∀ j, E j = true → j < n) (hi : ∀ j, j < n → is j = if E j = true then 1 else 0) (hc : ∀ a b, Tie n (A kM_strength) a b → E a = E b) (hf : f = 1 ∨ f = 2) :
    ∃ m' sg' κ' bF' pF', jS_end n m k nR sg bF tF pF n is f = some (m', sg', bF', pF') ∧ SM n k m' (endA E f A) nR sg' κ' bF' tF pF' ∧ m' ≤ m := by
  have hn := hW.1
  have hk := hW.2.1
  obtain ⟨r, e1, h1⟩ := s_endB (f := f) hW ⟨h.1, h.2.1⟩ hE hi
  have l : ∃ r, jS_end_L121 sg is n nR tF m 0 0 (fun _ => 0) = some r ∧ KP sg (fun i => !E (κ i / 24)) m r := by
    refine itN0 (fun g j (s : Nat × (Nat → Nat)) => jS_end_L121 sg is n nR tF g j s.1 s.2) m (fun j s => KP sg (fun i => !E (κ i / 24)) j s) _ (s0 := (0, fun _ => 0)) KP_0 (fun s h => ⟨s, rfl, h⟩) (fun g j s hj hs => ?_)
    obtain ⟨c, s⟩ := s
    obtain ⟨a, b, hab, hb, e, f0, f1, -, -, -, -, -, ht, hR⟩ := s_at h hW hj
    have hm := h.2.2.2.1
    have cj : c ≤ j := KP_le hs
    dsimp only
    rw [jS_end_L121, chkP_n hR, rd0, f0, chk_n (by omega) (by omega), rd_n (by omega), hi a (by omega)]
    by_cases q : E a = true
    · rw [if_pos q, if_neg one_ne]
      exact ⟨(c, s), KP_drop hs (by show (!E (κ j / 24)) = false; rw [show κ j / 24 = a by omega, q]; rfl), rfl⟩
    · rw [if_neg q, if_pos rfl, chkP_n (KP_lt hs (fun i hi => h.2.2.2.2.1 i (by omega))), chkP_n (by omega)]
      exact ⟨(c + 1, uN s c (sg j)), KP_keep hs (by show (!E (κ j / 24)) = true; rw [show κ j / 24 = a by omega, Bool.eq_false_iff.mpr q]; rfl), rfl⟩
  obtain ⟨⟨m', s'⟩, l1, l2⟩ := l
  obtain ⟨κ', Q, le⟩ := QOK_kept (tF' := tF) (T' := endA E f A kM_strength) (U' := endA E f A kM_wear) h.2.2.1 l2 (fun i hi => by
      obtain ⟨a, b, hab, hb, e, -, -, -, -, d0, -, -, ht, -⟩ := s_at h hW hi
      show (!E (κ i / 24)) = true ↔ 0 < (if E (κ i / 24) = true ∨ E (κ i % 24) = true then 0 else A kM_strength (κ i))
      rw [show κ i / 24 = a by omega, show κ i % 24 = b by omega, hc a b ht]
      cases E b with
      | true => simp
      | false => simpa using d0) (fun q _ hq => by
      replace hq : 0 < (if E (q / 24) = true ∨ E (q % 24) = true then 0 else A kM_strength q) := hq
      by_cases z : E (q / 24) = true ∨ E (q % 24) = true
      · rw [if_pos z] at hq
        exact absurd hq (by decide)
      · rw [if_neg z] at hq
        exact hq) (fun i hi hK => by
      obtain ⟨a, b, hab, hb, e, -, -, t2, t3, d0, -, -, ht, -⟩ := s_at h hW hi
      refine ⟨rfl, rfl, ?_, t3⟩
      rw [t2]
      show _ = (if E (κ i / 24) = true ∨ E (κ i % 24) = true then 0 else A kM_strength (κ i))
      replace hK : (!E (κ i / 24)) = true := hK
      rw [show κ i / 24 = a by omega] at hK ⊢
      rw [show κ i % 24 = b by omega, ← hc a b ht, if_neg (fun z => by
        have : E a = true := z.elim id id
        rw [this] at hK
        exact absurd hK (by decide))])
  refine ⟨m', s', κ', r.1, r.2, ?_, ⟨h1.1, h1.2, Q, by have := h.2.2.2.1; omega, KP_lt l2 h.2.2.2.2.1, fun j hj => ?_, fun c hc2 => ?_⟩, le⟩
  · unfold jS_end
    rw [chkP_n hn, e1, bnd_n, chkP_n h.2.2.2.1, l1, bnd_n]
  · rw [e_st]
    by_cases q : E j = true
    · rw [if_pos q]
      exact Or.inr hf
    · rw [if_neg q]
      exact h.2.2.2.2.2.1 j hj
  · rw [e_ks]
    by_cases q : onE E (A kK_seat c) = true
    · rw [if_pos q]
      exact Or.inr hf
    · rw [if_neg q]
      exact h.2.2.2.2.2.2 c hc2
end SMe
