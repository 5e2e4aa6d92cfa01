/-! the law's own raft: a lashing is found, taken away, put in -/
section SMl
variable {n k m nR : Nat} {A : Nat → Nat → Int32} {sg κ : Nat → Nat} {bF tF pF : Nat → Nat → Int32}
theorem s_find (h : SM n k m A nR sg κ bF tF pF) (hW : WA n k A) {a b : Nat} (ha : a < n) (hb : b < n) : (∃ i, i < m ∧ κ i = pr a b ∧ 0 < A kM_strength (pr a b) ∧ jS_tie m nR sg tF (nI a) (nI b) = some (some (sg i))) ∨ (¬ 0 < A kM_strength (pr a b) ∧ jS_tie m nR sg tF (nI a) (nI b) = some none) := by
  have hn := hW.1
  have l : ∃ r, jS_tie_L12 (nI a) (nI b) sg nR tF m 0 = some r ∧ ((∃ i, i < m ∧ κ i = pr a b ∧ r = Sum.inl (sg i)) ∨ (r = Sum.inr () ∧ ∀ i, i < m → κ i ≠ pr a b)) := by
    refine itN (fun f j (_ : Unit) => jS_tie_L12 (nI a) (nI b) sg nR tF f j) m (fun j _ => ∀ i, i < j → κ i ≠ pr a b) (fun r => (∃ i, i < m ∧ κ i = pr a b ∧ r = Sum.inl (sg i)) ∨ (r = Sum.inr () ∧ ∀ i, i < m → κ i ≠ pr a b)) (fun s hs => ⟨_, rfl, Or.inr ⟨rfl, hs⟩⟩) (fun f j s hj hs => ?_) m 0 () (by omega) (fun i hi => absurd hi (Nat.not_lt_zero i))
    obtain ⟨c, d, hcd, hd, e, f0, f1, -, -, -, -, -, -, hR⟩ := s_at h hW hj
    have next : κ j ≠ pr a b → ∀ i, i < j + 1 → κ i ≠ pr a b := fun z i hi => by
      by_cases y : i = j
      · rw [y]; exact z
      · exact hs i (by omega)
    rw [jS_tie_L12, chkP_n hR, rd0, rd1, f0, f1, mmin_n (by omega) (by omega), mmax_n (by omega) (by omega)]
    by_cases z1 : c = min a b
    · rw [if_pos (by rw [z1])]
      by_cases z2 : d = max a b
      · refine Or.inl ⟨_, by rw [if_pos (by rw [z2])], Or.inl ⟨j, hj, ?_, rfl⟩⟩
        rw [e, z1, z2]
        rfl
      · refine Or.inr ⟨(), next (fun y => ?_), by rw [if_neg (fun y => z2 ((nI_eq (by omega) (by omega)).mp y))]⟩
        unfold pr at y
        omega
    · refine Or.inr ⟨(), next (fun y => ?_), by rw [if_neg (fun y => z1 ((nI_eq (by omega) (by omega)).mp y))]⟩
      unfold pr at y
      omega
  obtain ⟨r, l1, l2⟩ := l
  unfold jS_tie
  rw [chkP_n h.2.2.2.1, l1, bnd_n]
  rcases l2 with ⟨i, hi, e, rfl⟩ | ⟨rfl, hno⟩
  · refine Or.inl ⟨i, hi, e, ?_, rfl⟩
    rw [← e]
    exact of_decide_eq_true (h.2.2.1.2.1.1 i hi).2
  · refine Or.inr ⟨fun z => ?_, rfl⟩
    obtain ⟨i, hi, e⟩ := h.2.2.1.2.1.2.2 (pr a b) (pr_lt (by omega) (by omega)) (decide_eq_true z)
    exact hno i hi e
theorem s_untie (h : SM n k m A nR sg κ bF tF pF) {i : Nat} (hi : i < m) : ∃ x, jS_untie m nR sg (sg i) = some x ∧ KP sg (fun j => decide (j ≠ i)) m x := by
  have hm := h.2.2.2.1
  have hs := h.2.2.2.2.1
  have l : ∃ x, jS_untie_L17 (sg i) sg nR m 0 0 (fun _ => 0) = some x ∧ KP sg (fun j => decide (j ≠ i)) m x := by
    refine itN0 (s0 := ((0 : Nat), (fun _ => 0 : Nat → Nat))) (fun f j (x : Nat × (Nat → Nat)) => jS_untie_L17 (sg i) sg nR f j x.1 x.2) m (fun j x => KP sg (fun j => decide (j ≠ i)) j x) _ KP_0 (fun x hx => ⟨x, rfl, hx⟩) (fun f j x hj hx => ?_)
    obtain ⟨c, s⟩ := x
    have cj : c ≤ j := KP_le hx
    rw [jS_untie_L17, chkP_n (hs j hj), chkP_n (hs i hi)]
    by_cases z : j = i
    · exact ⟨(c, s), KP_drop hx (decide_eq_false (fun y => y z)), by rw [z, if_pos rfl]⟩
    · exact ⟨(c + 1, uN s c (sg j)), KP_keep hx (decide_eq_true z), by rw [if_neg (fun y => z (s_inj h hj hi y)), chkP_n (KP_lt hx (fun l hl => hs l (by omega))), chkP_n (by omega)]⟩
  obtain ⟨x, l1, l2⟩ := l
  refine ⟨x, ?_, l2⟩
  unfold jS_untie
  rw [chkP_n hm, l1, bnd_n]
theorem s_cutQ (h : SM n k m A nR sg κ bF tF pF) {i : Nat} (hi : i < m) {x : Nat × (Nat → Nat)} (hx : KP sg (fun j => decide (j ≠ i)) m x) : ∃ κ', QOK x.1 (fun j => tF (x.2 j) 0) (fun j => tF (x.2 j) 1) (fun j => tF (x.2 j) 2) (fun j => tF (x.2 j) 3) κ' (upd (A kM_strength) (κ i) 0) (upd (A kM_wear) (κ i) 0) ∧ x.1 ≤ m := by
  obtain ⟨c, s⟩ := x
  have hne : ∀ j, j < m → j ≠ i → κ j ≠ κ i := fun j hj hji e => by
    rcases Nat.lt_or_gt_of_ne hji with q | q
    · have := h.2.2.1.2.1.2.1 j i q hi
      omega
    · have := h.2.2.1.2.1.2.1 i j q hj
      omega
  refine QOK_kept (tF' := tF) (T' := upd (A kM_strength) (κ i) 0) (U' := upd (A kM_wear) (κ i) 0) h.2.2.1 hx (fun j hj => ?_) (fun q hq h0 => ?_) (fun j hj hK => ?_)
  · rw [decide_eq_true_eq]
    by_cases z : j = i
    · rw [z, upd_a]
      exact ⟨fun y => absurd rfl y, fun y => absurd y (by decide)⟩
    · rw [upd_b (hne j hj z)]
      exact ⟨fun _ => of_decide_eq_true (h.2.2.1.2.1.1 j hj).2, fun _ => z⟩
  · by_cases z : q = κ i
    · rw [z, upd_a] at h0
      exact absurd h0 (by decide)
    · rw [upd_b z] at h0
      exact h0
  · have z := of_decide_eq_true hK
    obtain ⟨-, -, q3, q4⟩ := h.2.2.1.2.2 j hj
    rw [upd_b (hne j hj z), upd_b (hne j hj z)]
    exact ⟨rfl, rfl, q3, q4⟩
end SMl
/-- a new lashing stands at place p -/
def LIn (m p nR P : Nat) (sg s6 κ : Nat → Nat) : Prop :=
  (∀ i, i < p → s6 i = sg i) ∧ s6 p = nR ∧ (∀ i, p ≤ i → i < m → s6 (i + 1) = sg i) ∧ (∀ i, i < p → κ i < P) ∧ ∀ i, p ≤ i → i < m → P < κ i
section SMi
variable {m nR one two p : Nat} {T U : Nat → Int32} {sg s6 κ : Nat → Nat} {tF : Nat → Nat → Int32} {x : Int32}
theorem QOK_ins (Q : QOK m (fun i => tF (sg i) 0) (fun i => tF (sg i) 1) (fun i => tF (sg i) 2) (fun i => tF (sg i) 3) κ T U) (hm : m ≤ 10) (hs : ∀ i, i < m → sg i < nR) (h12 : one < two) (h2 : two < 24) (hx : 0 < x) (hp : p ≤ m) (L : LIn m p nR (24 * one + two) sg s6 κ) :
    (∃ κ', QOK (m + 1) (fun i => uF tF nR (wr (wr (wr (wr (fun _ => 0) 0 (nI one)) 1 (nI two)) 2 x) 3 0) (s6 i) 0) (fun i => uF tF nR (wr (wr (wr (wr (fun _ => 0) 0 (nI one)) 1 (nI two)) 2 x) 3 0) (s6 i) 1) (fun i => uF tF nR (wr (wr (wr (wr (fun _ => 0) 0 (nI one)) 1 (nI two)) 2 x) 3 0) (s6 i) 2) (fun i => uF tF nR (wr (wr (wr (wr (fun _ => 0) 0 (nI one)) 1 (nI two)) 2 x) 3 0) (s6 i) 3) κ' (upd T (24 * one + two) x) (upd U (24 * one + two) 0)) ∧ ∀ i, i < m + 1 → s6 i < nR + 1 := by
  obtain ⟨L1, L2, L3, L4, L5⟩ := L
  obtain ⟨-, ⟨e1, e2, e3⟩, hr⟩ := Q
  have row : ∀ i, i < m + 1 → (i < p ∧ s6 i = sg i) ∨ (i = p ∧ s6 i = nR) ∨ (p < i ∧ i - 1 < m ∧ s6 i = sg (i - 1)) := fun i hi => by
    rcases Nat.lt_trichotomy i p with q | q | q
    · exact Or.inl ⟨q, L1 i q⟩
    · exact Or.inr (Or.inl ⟨q, by rw [q]; exact L2⟩)
    · refine Or.inr (Or.inr ⟨q, by omega, ?_⟩)
      have := L3 (i - 1) (by omega) (by omega)
      rw [show i - 1 + 1 = i by omega] at this
      exact this
  have tl : ∀ i, i < p → T (κ i) = upd T (24 * one + two) x (κ i) ∧ U (κ i) = upd U (24 * one + two) 0 (κ i) := fun i hi => by
    have := L4 i hi
    rw [upd_b (by omega), upd_b (by omega)]
    exact ⟨rfl, rfl⟩
  have tg : ∀ i, p ≤ i → i < m → T (κ i) = upd T (24 * one + two) x (κ i) ∧ U (κ i) = upd U (24 * one + two) 0 (κ i) := fun i hi hi2 => by
    have := L5 i hi hi2
    rw [upd_b (by omega), upd_b (by omega)]
    exact ⟨rfl, rfl⟩
  refine ⟨⟨fun i => if i < p then κ i else if i = p then 24 * one + two else κ (i - 1), by omega, ⟨fun i hi => ?_, fun i j hij hj => ?_, fun q hq hT => ?_⟩, fun i hi => ?_⟩, fun i hi => ?_⟩
  · dsimp only
    rcases Nat.lt_trichotomy i p with q | q | q
    · rw [if_pos q]
      obtain ⟨a1, a2⟩ := e1 i (by omega)
      rw [← (tl i q).1]
      exact ⟨a1, a2⟩
    · rw [if_neg (by omega), if_pos q, upd_a]
      exact ⟨by omega, decide_eq_true hx⟩
    · rw [if_neg (by omega), if_neg (by omega)]
      obtain ⟨a1, a2⟩ := e1 (i - 1) (by omega)
      rw [← (tg (i - 1) (by omega) (by omega)).1]
      exact ⟨a1, a2⟩
  · dsimp only
    rcases Nat.lt_trichotomy i p with q | q | q
    · rw [if_pos q]
      rcases Nat.lt_trichotomy j p with z | z | z
      · rw [if_pos z]; exact e2 i j hij (by omega)
      · rw [if_neg (by omega), if_pos z]; exact L4 i q
      · rw [if_neg (by omega), if_neg (by omega)]
        have := L4 i q
        have := L5 (j - 1) (by omega) (by omega)
        omega
    · rw [if_neg (by omega), if_pos q, if_neg (by omega), if_neg (by omega)]
      exact L5 (j - 1) (by omega) (by omega)
    · rw [if_neg (by omega), if_neg (by omega), if_neg (by omega), if_neg (by omega)]
      exact e2 (i - 1) (j - 1) (by omega) (by omega)
  · by_cases z : q = 24 * one + two
    · exact ⟨p, by omega, by dsimp only; rw [if_neg (by omega), if_pos rfl, z]⟩
    · have h0 := of_decide_eq_true hT
      rw [upd_b z] at h0
      obtain ⟨i, hi, ei⟩ := e3 q hq (decide_eq_true h0)
      by_cases y : i < p
      · exact ⟨i, by omega, by dsimp only; rw [if_pos y, ei]⟩
      · refine ⟨i + 1, by omega, ?_⟩
        dsimp only
        rw [if_neg (by omega), if_neg (by omega), Nat.add_sub_cancel, ei]
  · dsimp only
    rcases row i hi with ⟨q, e⟩ | ⟨q, e⟩ | ⟨q, q2, e⟩
    · have hb := hs i (by omega)
      rw [e, uF_b (by omega), if_pos q, ← (tl i q).1, ← (tl i q).2]
      exact hr i (by omega)
    · rw [e, uF_a, if_neg (by omega), if_pos q, upd_a, upd_a, wr0, wr1, wr2, wr3]
      refine ⟨?_, ?_, ?_, upd_a⟩
      · rw [upd_b (by decide), upd_b (by decide), upd_b (by decide), upd_a, show (24 * one + two) / 24 = one by omega]
      · rw [upd_b (by decide), upd_b (by decide), upd_a, show (24 * one + two) % 24 = two by omega]
      · rw [upd_b (by decide), upd_a]
    · have hb := hs (i - 1) q2
      rw [e, uF_b (by omega), if_neg (by omega), if_neg (by omega), ← (tg (i - 1) (by omega) q2).1, ← (tg (i - 1) (by omega) q2).2]
      exact hr (i - 1) q2
  · rcases row i hi with ⟨q, e⟩ | ⟨q, e⟩ | ⟨q, q2, e⟩
    · have := hs i (by omega)
      omega
    · omega
    · have := hs (i - 1) q2
      omega
/-- the walk through the lashings, with the new one put in at its place -/
theorem s_insL (Q : QOK m (fun i => tF (sg i) 0) (fun i => tF (sg i) 1) (fun i => tF (sg i) 2) (fun i => tF (sg i) 3) κ T U) (hm : m ≤ 10) (hs : ∀ i, i < m → sg i < nR) (h12 : one < two) (h2 : two < 24) (h0 : ¬ 0 < T (24 * one + two)) :
    ∃ r, jS_tie__L56 x (nI one) (nI two) m sg m 0 nR tF 0 (fun _ => 0) 0 = some r ∧ ((r.1 = nR ∧ r.2.1 = tF ∧ r.2.2.1 = m ∧ r.2.2.2.2 = 0 ∧ (∀ i, i < m → r.2.2.2.1 i = sg i) ∧ ∀ i, i < m → κ i < 24 * one + two) ∨ (r.1 = nR + 1 ∧ r.2.1 = uF tF nR (wr (wr (wr (wr (fun _ => 0) 0 (nI one)) 1 (nI two)) 2 x) 3 0) ∧ r.2.2.1 = m + 1 ∧ r.2.2.2.2 = 1 ∧ ∃ p, p < m ∧ LIn m p nR (24 * one + two) sg r.2.2.2.1 κ)) := by
  have hne : ∀ i, i < m → κ i ≠ 24 * one + two := fun i hi e => h0 (by
    have := of_decide_eq_true (Q.2.1.1 i hi).2
    rw [e] at this
    exact this)
  refine itN0 (s0 := (nR, tF, (0 : Nat), (fun _ => 0 : Nat → Nat), (0 : Int32))) (fun f j (s : Nat × (Nat → Nat → Int32) × Nat × (Nat → Nat) × Int32) => jS_tie__L56 x (nI one) (nI two) m sg f j s.1 s.2.1 s.2.2.1 s.2.2.2.1 s.2.2.2.2) m
    (fun j r => (r.1 = nR ∧ r.2.1 = tF ∧ r.2.2.1 = j ∧ r.2.2.2.2 = 0 ∧ (∀ i, i < j → r.2.2.2.1 i = sg i) ∧ ∀ i, i < j → κ i < 24 * one + two) ∨ (r.1 = nR + 1 ∧ r.2.1 = uF tF nR (wr (wr (wr (wr (fun _ => 0) 0 (nI one)) 1 (nI two)) 2 x) 3 0) ∧ r.2.2.1 = j + 1 ∧ r.2.2.2.2 = 1 ∧ ∃ p, p < j ∧ LIn j p nR (24 * one + two) sg r.2.2.2.1 κ)) _ (Or.inl ⟨rfl, rfl, rfl, rfl, fun i hi => absurd hi (Nat.not_lt_zero i), fun i hi => absurd hi (Nat.not_lt_zero i)⟩) (fun s h => ⟨s, rfl, h⟩) (fun f j s hj h => ?_)
  obtain ⟨R, t, c, s6, v⟩ := s
  obtain ⟨q1, q2, -, -⟩ := Q.2.2 j hj
  have b1 := (Q.2.1.1 j hj).1
  have hsj := hs j hj
  dsimp only at h q1 q2 ⊢
  rcases h with ⟨rfl, rfl, rfl, rfl, k1, k2⟩ | ⟨rfl, rfl, rfl, rfl, p, hp, L1, L2, L3, L4, L5⟩
  · have hlt : ∀ i, i < c → s6 i < R := fun i hi => by rw [k1 i hi]; exact hs i (by omega)
    have keep : κ c < 24 * one + two → ∃ s' : Nat × (Nat → Nat → Int32) × Nat × (Nat → Nat) × Int32, ((s'.1 = R ∧ s'.2.1 = t ∧ s'.2.2.1 = c + 1 ∧ s'.2.2.2.2 = 0 ∧ (∀ i, i < c + 1 → s'.2.2.2.1 i = sg i) ∧ ∀ i, i < c + 1 → κ i < 24 * one + two) ∨ (s'.1 = R + 1 ∧ s'.2.1 = uF t R (wr (wr (wr (wr (fun _ => 0) 0 (nI one)) 1 (nI two)) 2 x) 3 0) ∧ s'.2.2.1 = c + 1 + 1 ∧ s'.2.2.2.2 = 1 ∧ ∃ p, p < c + 1 ∧ LIn (c + 1) p R (24 * one + two) sg s'.2.2.2.1 κ)) ∧ chkP (∀ i, i < c → s6 i < R) (chkP (c < 12) (jS_tie__L56 x (nI one) (nI two) m sg f (c + 1) R t (c + 1) (uN s6 c (sg c)) 0)) = jS_tie__L56 x (nI one) (nI two) m sg f (c + 1) s'.1 s'.2.1 s'.2.2.1 s'.2.2.2.1 s'.2.2.2.2 := fun hk => by
      refine ⟨(R, t, c + 1, uN s6 c (sg c), 0), Or.inl ⟨rfl, rfl, rfl, rfl, fun i hi => ?_, fun i hi => ?_⟩, by rw [chkP_n hlt, chkP_n (by omega)]⟩
      · dsimp only
        by_cases z : i = c
        · rw [z, uN_a]
        · rw [uN_b z]; exact k1 i (by omega)
      · by_cases z : i = c
        · rw [z]; exact hk
        · exact k2 i (by omega)
    have put : 24 * one + two < κ c → ∃ s' : Nat × (Nat → Nat → Int32) × Nat × (Nat → Nat) × Int32, ((s'.1 = R ∧ s'.2.1 = t ∧ s'.2.2.1 = c + 1 ∧ s'.2.2.2.2 = 0 ∧ (∀ i, i < c + 1 → s'.2.2.2.1 i = sg i) ∧ ∀ i, i < c + 1 → κ i < 24 * one + two) ∨ (s'.1 = R + 1 ∧ s'.2.1 = uF t R (wr (wr (wr (wr (fun _ => 0) 0 (nI one)) 1 (nI two)) 2 x) 3 0) ∧ s'.2.2.1 = c + 1 + 1 ∧ s'.2.2.2.2 = 1 ∧ ∃ p, p < c + 1 ∧ LIn (c + 1) p R (24 * one + two) sg s'.2.2.2.1 κ)) ∧ chkP (∀ i, i < m → sg i < R) (chkP (∀ i, i < c → s6 i < R) (chkP (∀ i, i < c → s6 i < R + 1) (chkP (c < 12) (chkP (∀ i, i < (c + 1) → (uN s6 c R) i < R + 1) (chkP ((c + 1) < 12) (jS_tie__L56 x (nI one) (nI two) m sg f (c + 1) (R + 1) (uF t R (wr (wr (wr (wr (fun _ => 0) 0 (nI one)) 1 (nI two)) 2 x) 3 0)) (c + 1 + 1) (uN (uN s6 c R) (c + 1) (sg c)) 1)))))) = jS_tie__L56 x (nI one) (nI two) m sg f (c + 1) s'.1 s'.2.1 s'.2.2.1 s'.2.2.2.1 s'.2.2.2.2 := fun hk => by
      refine ⟨(R + 1, uF t R (wr (wr (wr (wr (fun _ => 0) 0 (nI one)) 1 (nI two)) 2 x) 3 0), c + 1 + 1, uN (uN s6 c R) (c + 1) (sg c), 1), Or.inr ⟨rfl, rfl, rfl, rfl, c, Nat.lt_succ_self c, fun i hi => ?_, ?_, fun i h1 h2 => ?_, k2, fun i h1 h2 => ?_⟩, ?_⟩
      · dsimp only
        rw [uN_b (by omega), uN_b (by omega)]; exact k1 i hi
      · dsimp only
        rw [uN_b (by omega), uN_a]
      · dsimp only
        rw [show i = c by omega, uN_a]
      · rw [show i = c by omega]; exact hk
      · rw [chkP_n hs, chkP_n hlt, chkP_n (fun i hi => Nat.lt_succ_of_lt (hlt i hi)), chkP_n (by omega), chkP_n (fun i hi => ?_), chkP_n (by omega)]
        by_cases z : i = c
        · rw [z, uN_a]; exact Nat.lt_succ_self R
        · rw [uN_b z]; exact Nat.lt_succ_of_lt (hlt i (by omega))
    rw [jS_tie__L56, chkP_n hsj, if_pos rfl, jn_n, rd0, rd1, q1, q2]
    by_cases z1 : one < κ c / 24
    · rw [if_pos ((nI_ltI (by omega) (by omega)).mpr z1)]
      exact put (by omega)
    · rw [if_neg (fun y => z1 ((nI_ltI (by omega) (by omega)).mp y))]
      by_cases z2 : κ c / 24 = one
      · rw [if_pos (by rw [z2])]
        by_cases z3 : κ c % 24 ≤ two
        · rw [if_pos ((nI_leI (by omega) (by omega)).mpr z3)]
          have := hne c hj
          exact keep (by omega)
        · rw [if_neg (fun y => z3 ((nI_leI (by omega) (by omega)).mp y))]
          exact put (by omega)
      · rw [if_neg (fun y => z2 ((nI_eq (by omega) (by omega)).mp y))]
        exact keep (by omega)
  · have hlt : ∀ i, i < j + 1 → s6 i < nR + 1 := fun i hi => by
      rcases Nat.lt_trichotomy i p with q | q | q
      · rw [L1 i q]
        have := hs i (by omega)
        omega
      · rw [q, L2]; omega
      · have e := L3 (i - 1) (by omega) (by omega)
        rw [show i - 1 + 1 = i by omega] at e
        rw [e]
        have := hs (i - 1) (by omega)
        omega
    refine ⟨(nR + 1, uF tF nR (wr (wr (wr (wr (fun _ => 0) 0 (nI one)) 1 (nI two)) 2 x) 3 0), j + 1 + 1, uN s6 (j + 1) (sg j), 1), Or.inr ⟨rfl, rfl, rfl, rfl, p, by omega, fun i hi => ?_, ?_, fun i h1 h2 => ?_, L4, fun i h1 h2 => ?_⟩, ?_⟩
    · dsimp only
      rw [uN_b (by omega)]; exact L1 i hi
    · dsimp only
      rw [uN_b (by omega)]; exact L2
    · dsimp only
      by_cases z : i = j
      · rw [z, uN_a]
      · rw [uN_b (by omega)]; exact L3 i h1 (by omega)
    · by_cases z : i = j
      · have a1 := L5 p (Nat.le_refl p) hp
        have a2 := Q.2.1.2.1 p i (by omega) (by omega)
        omega
      · exact L5 i h1 (by omega)
    · rw [jS_tie__L56, chkP_n (by omega), if_neg one_ne, chkP_n hlt, chkP_n (by omega)]
end SMi
