/-! lashings one by one: each takes a name away at most, and one without which a piece would be two takes one -/
def mg (l : Nat → Nat) (a b : Nat) : Nat → Nat := fun i => if l i = max (l a) (l b) then min (l a) (l b) else l i
def lbl (P : Nat → Bool) : Nat → Nat → Nat
  | 0 => fun i => i
  | q + 1 => if P q = true then mg (lbl P q) (q / 24) (q % 24) else lbl P q
def idl (l : Nat → Nat) : Prop := ∀ i, l i ≤ i ∧ l (l i) = l i
theorem mg_min {l : Nat → Nat} (h : idl l) (a b : Nat) : l (min (l a) (l b)) = min (l a) (l b) := by
  rcases Nat.le_total (l a) (l b) with e | e
  · rw [Nat.min_eq_left e]; exact (h a).2
  · rw [Nat.min_eq_right e]; exact (h b).2
theorem mg_max {l : Nat → Nat} (h : idl l) (a b : Nat) : l (max (l a) (l b)) = max (l a) (l b) := by
  rcases Nat.le_total (l a) (l b) with e | e
  · rw [Nat.max_eq_right e]; exact (h b).2
  · rw [Nat.max_eq_left e]; exact (h a).2
theorem mg_idl {l : Nat → Nat} (h : idl l) (a b : Nat) : idl (mg l a b) := by
  intro i
  have hm := mg_min h a b
  have hmm : mg l a b (min (l a) (l b)) = min (l a) (l b) := by
    unfold mg
    rw [hm]
    by_cases q : min (l a) (l b) = max (l a) (l b)
    · rw [if_pos q]
    · rw [if_neg q]
  by_cases q : l i = max (l a) (l b)
  · have e : mg l a b i = min (l a) (l b) := if_pos q
    rw [e]
    have := (h i).1
    exact ⟨by omega, hmm⟩
  · have e : mg l a b i = l i := if_neg q
    rw [e]
    refine ⟨(h i).1, ?_⟩
    show (if l (l i) = max (l a) (l b) then min (l a) (l b) else l (l i)) = l i
    rw [(h i).2, if_neg q]
theorem lbl_idl {P : Nat → Bool} : ∀ Q, idl (lbl P Q)
  | 0 => fun i => ⟨Nat.le_refl _, rfl⟩
  | Q + 1 => by
    rw [lbl]
    by_cases q : P Q = true
    · rw [if_pos q]; exact mg_idl (lbl_idl Q) _ _
    · rw [if_neg q]; exact lbl_idl Q
theorem mg_ab {l : Nat → Nat} {a b : Nat} : mg l a b a = min (l a) (l b) ∧ mg l a b b = min (l a) (l b) := by
  unfold mg
  constructor
  · by_cases q : l a = max (l a) (l b)
    · rw [if_pos q]
    · rw [if_neg q]; omega
  · by_cases q : l b = max (l a) (l b)
    · rw [if_pos q]
    · rw [if_neg q]; omega
theorem mg_eq {l : Nat → Nat} {a b x y : Nat} (h : l x = l y) : mg l a b x = mg l a b y := by
  unfold mg
  rw [h]
theorem lbl_edge {P : Nat → Bool} : ∀ {Q q : Nat}, q < Q → P q = true → lbl P Q (q / 24) = lbl P Q (q % 24)
  | 0, _, h, _ => absurd h (Nat.not_lt_zero _)
  | Q + 1, q, h, hP => by
    rw [lbl]
    by_cases e : q = Q
    · rw [← e, if_pos hP, mg_ab.1, mg_ab.2]
    · have ih := lbl_edge (Q := Q) (q := q) (by omega) hP
      by_cases z : P Q = true
      · rw [if_pos z]; exact mg_eq ih
      · rw [if_neg z]; exact ih
def Rq (P : Nat → Bool) (Q : Nat) (x y : Nat) : Prop := ∃ q, q < Q ∧ P q = true ∧ ((x = q / 24 ∧ y = q % 24) ∨ (x = q % 24 ∧ y = q / 24))
theorem Rq_symm {P : Nat → Bool} {Q : Nat} (x y : Nat) (h : Rq P Q x y) : Rq P Q y x := by
  obtain ⟨q, h1, h2, h3⟩ := h
  exact ⟨q, h1, h2, h3.symm.imp (fun z => ⟨z.2, z.1⟩) (fun z => ⟨z.2, z.1⟩)⟩
theorem Rq_mono {P : Nat → Bool} {Q Q' : Nat} (hQ : Q ≤ Q') (x y : Nat) (h : Rq P Q x y) : Rq P Q' x y := by
  obtain ⟨q, h1, h2, h3⟩ := h
  exact ⟨q, by omega, h2, h3⟩
theorem lbl_conn {P : Nat → Bool} : ∀ (Q i : Nat), conn (Rq P Q) i (lbl P Q i)
  | 0, _ => conn_refl
  | Q + 1, i => by
    have ih : ∀ i, conn (Rq P (Q + 1)) i (lbl P Q i) := fun i => conn_mono (fun x y => Rq_mono (Nat.le_succ Q) x y) (lbl_conn Q i)
    rw [lbl]
    by_cases z : P Q = true
    · rw [if_pos z]
      by_cases q : lbl P Q i = max (lbl P Q (Q / 24)) (lbl P Q (Q % 24))
      · have e : mg (lbl P Q) (Q / 24) (Q % 24) i = min (lbl P Q (Q / 24)) (lbl P Q (Q % 24)) := if_pos q
        rw [e]
        have hi := ih i
        rw [q] at hi
        have ha := ih (Q / 24)
        have hb := ih (Q % 24)
        have hab : conn (Rq P (Q + 1)) (Q / 24) (Q % 24) := conn_step conn_refl ⟨Q, Nat.lt_succ_self Q, z, Or.inl ⟨rfl, rfl⟩⟩
        have hl : conn (Rq P (Q + 1)) (lbl P Q (Q / 24)) (lbl P Q (Q % 24)) := conn_trans (conn_symm Rq_symm ha) (conn_trans hab hb)
        rcases Nat.le_total (lbl P Q (Q / 24)) (lbl P Q (Q % 24)) with e | e
        · rw [Nat.max_eq_right e] at hi
          rw [Nat.min_eq_left e]
          exact conn_trans hi (conn_symm Rq_symm hl)
        · rw [Nat.max_eq_left e] at hi
          rw [Nat.min_eq_right e]
          exact conn_trans hi hl
      · have e : mg (lbl P Q) (Q / 24) (Q % 24) i = lbl P Q i := if_neg q
        rw [e]
        exact ih i
    · rw [if_neg z]
      exact ih i
def rt (V : Nat → Bool) (l : Nat → Nat) (n : Nat) : Nat := ns (fun i => if V i = true ∧ l i = i then 1 else 0) n
theorem mg_same {l : Nat → Nat} {a b : Nat} (h : l a = l b) : mg l a b = l := by
  funext i
  unfold mg
  rw [h, Nat.max_self, Nat.min_self]
  by_cases q : l i = l b
  · rw [if_pos q, q]
  · rw [if_neg q]
theorem mg_root {l : Nat → Nat} (h : idl l) {a b : Nat} (hab : l a ≠ l b) (i : Nat) : mg l a b i = i ↔ (l i = i ∧ i ≠ max (l a) (l b)) := by
  have hm := mg_min h a b
  constructor
  · intro e
    by_cases q : l i = max (l a) (l b)
    · have e2 : mg l a b i = min (l a) (l b) := if_pos q
      rw [e2] at e
      rw [← e, hm] at q
      omega
    · have e2 : mg l a b i = l i := if_neg q
      rw [e2] at e
      exact ⟨e, fun z => q (by rw [e]; exact z)⟩
  · intro ⟨e, z⟩
    have e2 : mg l a b i = l i := if_neg (fun y => z (by rw [← y, e]))
    rw [e2, e]
theorem rt_mg {V : Nat → Bool} {l : Nat → Nat} {n a b : Nat} (h : idl l) (hab : l a ≠ l b) (ha : a < n) (hb : b < n) : rt V l n = rt V (mg l a b) n + if V (max (l a) (l b)) = true then 1 else 0 := by
  have hM : max (l a) (l b) < n := by
    have := (h a).1
    have := (h b).1
    omega
  unfold rt
  rw [← ns_pick (g := fun i => if V i = true then 1 else 0) hM, ← ns_add]
  refine ns_congr fun i hi => ?_
  by_cases q : i = max (l a) (l b)
  · rw [if_neg (fun z : V i = true ∧ mg l a b i = i => ((mg_root h hab i).mp z.2).2 q), if_pos q, Nat.zero_add]
    by_cases v : V i = true
    · rw [if_pos v, if_pos ⟨v, by rw [q]; exact mg_max h a b⟩]
    · rw [if_neg v, if_neg (fun z => v z.1)]
  · rw [if_neg q, Nat.add_zero]
    by_cases v : V i = true ∧ l i = i
    · rw [if_pos v, if_pos ⟨v.1, (mg_root h hab i).mpr ⟨v.2, q⟩⟩]
    · rw [if_neg v, if_neg (fun z => v ⟨z.1, ((mg_root h hab i).mp z.2).1⟩)]
theorem rt_0 {V : Nat → Bool} {P : Nat → Bool} {n : Nat} : rt V (lbl P 0) n = ns (fun i => if V i = true then 1 else 0) n :=
  ns_congr fun i _ => by
    by_cases v : V i = true
    · rw [if_pos v, if_pos ⟨v, rfl⟩]
    · rw [if_neg v, if_neg (fun z => v z.1)]
theorem lbl_E1 {V P : Nat → Bool} {n : Nat} (hP : ∀ q, P q = true → q / 24 < n ∧ q % 24 < n) : ∀ Q, rt V (lbl P 0) n ≤ rt V (lbl P Q) n + ns (fun q => if P q = true then 1 else 0) Q
  | 0 => Nat.le_add_right _ _
  | Q + 1 => by
    have ih := lbl_E1 (V := V) hP Q
    have el : lbl P (Q + 1) = if P Q = true then mg (lbl P Q) (Q / 24) (Q % 24) else lbl P Q := rfl
    rw [ns, el]
    by_cases z : P Q = true
    · rw [if_pos z, if_pos z]
      by_cases e : lbl P Q (Q / 24) = lbl P Q (Q % 24)
      · rw [mg_same e]; omega
      · have := rt_mg (V := V) (n := n) (lbl_idl (P := P) Q) e (hP Q z).1 (hP Q z).2
        have h1 : (if V (max (lbl P Q (Q / 24)) (lbl P Q (Q % 24))) = true then 1 else 0) ≤ 1 := by split <;> omega
        omega
    · rw [if_neg z, if_neg z]; exact ih
theorem lbl_E2 {V P : Nat → Bool} {n : Nat} (hP : ∀ q, P q = true → q / 24 < n ∧ q % 24 < n) (hd : ∀ q, P q = true → lbl P q (q / 24) ≠ lbl P q (q % 24) ∧ V (max (lbl P q (q / 24)) (lbl P q (q % 24))) = true) : ∀ Q, rt V (lbl P 0) n = rt V (lbl P Q) n + ns (fun q => if P q = true then 1 else 0) Q
  | 0 => rfl
  | Q + 1 => by
    have ih := lbl_E2 (V := V) hP hd Q
    have el : lbl P (Q + 1) = if P Q = true then mg (lbl P Q) (Q / 24) (Q % 24) else lbl P Q := rfl
    rw [ns, el]
    by_cases z : P Q = true
    · rw [if_pos z, if_pos z]
      have := rt_mg (V := V) (n := n) (lbl_idl (P := P) Q) (hd Q z).1 (hP Q z).1 (hP Q z).2
      rw [if_pos (hd Q z).2] at this
      omega
    · rw [if_neg z, if_neg z]; exact ih
theorem Rq_Tie {n : Nat} {st T : Nat → Int32} {P : Nat → Bool} {Q : Nat} (hn : n ≤ 24) (hT : TOK n st T) (hP : ∀ q, q < Q → P q = true → q < 576 ∧ 0 < T q) (x y : Nat) (h : Rq P Q x y) : Tie n T x y := by
  obtain ⟨q, hq, hp, o⟩ := h
  obtain ⟨h1, h2⟩ := hP q hq hp
  obtain ⟨a, b, e, hab, hb, -, -, -⟩ := hT q h1 (i_pos_ne h2)
  have t : Tie n T a b := ⟨by omega, hb, by omega, by rw [pr_of hab, ← e]; exact h2⟩
  have e2 : q / 24 = a := by omega
  have e3 : q % 24 = b := by omega
  rw [e2, e3] at o
  rcases o with ⟨ex, ey⟩ | ⟨ex, ey⟩
  · rw [ex, ey]; exact t
  · rw [ex, ey]; exact Tie_symm _ _ t
section Fo
variable {n m : Nat} {st T U p : Nat → Int32} {κ : Nat → Nat}
/-- the names, lashing by lashing -/
theorem lbl_POK (hn : n ≤ 24) (hT : TOK n st T) : POK n st (Tie n T) (fun j => if st j = 0 then nI (lbl (fun q => decide (0 < T q)) 576 j) else -1) := by
  have hR : ∀ x y, Rq (fun q => decide (0 < T q)) 576 x y → Tie n T x y := Rq_Tie hn hT (fun q hq hp => ⟨hq, of_decide_eq_true hp⟩)
  refine ⟨fun j hj h0 => ⟨_, (lbl_idl 576 j).1, if_pos h0, conn_symm Tie_symm (conn_mono hR (lbl_conn 576 j))⟩, fun a b hab => ?_, fun j hj h0 => if_neg h0⟩
  obtain ⟨ha, hb, hne, h0⟩ := hab
  have hp := pr_lt (a := a) (b := b) (by omega) (by omega)
  obtain ⟨c, d, e, hcd, hd, s1, s2, -⟩ := hT _ hp (i_pos_ne h0)
  have hl := lbl_edge (P := fun q => decide (0 < T q)) hp (decide_eq_true h0)
  rw [show pr a b / 24 = c by omega, show pr a b % 24 = d by omega] at hl
  dsimp only
  rcases pr_cases e hcd (by omega) (by omega) (by omega) with ⟨rfl, rfl⟩ | ⟨rfl, rfl⟩
  · rw [if_pos s1, if_pos s2, hl]
  · rw [if_pos s1, if_pos s2, hl]
/-- there are enough lashings for the pieces -/
theorem fo_enough (hn : n ≤ 24) (hT : TOK n st T) (hP : POK n st (Tie n T) p) (he : enu κ m (fun k => decide (0 < T k)) 576) :
    ns (fun j => if st j = 0 then 1 else 0) n ≤ ns (fun j => if p j = nI j then 1 else 0) n + m := by
  have h1 := lbl_E1 (V := fun j => decide (st j = 0)) (P := fun q => decide (q < 576) && decide (0 < T q)) (n := n) (fun q hq => by
    rw [Bool.and_eq_true, decide_eq_true_eq, decide_eq_true_eq] at hq
    obtain ⟨a, b, e, hab, hb, -⟩ := hT q hq.1 (i_pos_ne hq.2)
    omega) 576
  have hl : ∀ Q, Q ≤ 576 → lbl (fun q => decide (q < 576) && decide (0 < T q)) Q = lbl (fun q => decide (0 < T q)) Q := by
    intro Q
    induction Q with
    | zero => intro _; rfl
    | succ Q ih =>
      intro hQ
      rw [lbl, lbl, ih (by omega), decide_eq_true (show Q < 576 by omega), Bool.true_and]
  rw [rt_0, hl 576 (Nat.le_refl _)] at h1
  have e1 : ns (fun i => if decide (st i = 0) = true then 1 else 0) n = ns (fun j => if st j = 0 then 1 else 0) n := ns_congr fun j _ => by
    by_cases z : st j = 0
    · rw [decide_eq_true z, if_pos rfl, if_pos z]
    · rw [decide_eq_false z, if_neg (by decide), if_neg z]
  have e2 : ns (fun q => if (decide (q < 576) && decide (0 < T q)) = true then 1 else 0) 576 = m := by
    rw [enu_tot he]
    refine ns_congr fun q hq => ?_
    rw [decide_eq_true hq, Bool.true_and]
  have e3 : rt (fun j => decide (st j = 0)) (lbl (fun q => decide (0 < T q)) 576) n = ns (fun j => if p j = nI j then 1 else 0) n := ns_congr fun j hj => by
    have hpj := POK_one hn hP (lbl_POK hn hT) j hj
    rw [hpj]
    dsimp only
    by_cases z : st j = 0
    · rw [if_pos z]
      by_cases y : lbl (fun q => decide (0 < T q)) 576 j = j
      · rw [if_pos ⟨decide_eq_true z, y⟩, if_pos (by rw [y])]
      · have hle := (lbl_idl (P := fun q => decide (0 < T q)) 576 j).1
        rw [if_neg (fun w => y w.2), if_neg (fun w => y ((nI_eq (by omega) (by omega)).mp w))]
    · rw [if_neg z, if_neg (fun w => z (of_decide_eq_true w.1)), if_neg (fun w => n_m1 (by omega) w.symm)]
  rw [e1, e2, e3] at h1
  exact h1
/-- of the lashings of a piece fewer than its barrels are such that it would be two without them -/
theorem fo_bridges (hn : n ≤ 24) (hT : TOK n st T) (hl : ∀ q, q < 576 → 0 < T q → 0 ≤ T q - U q) (hP : POK n st (Tie n T) p) {i : Nat} (hi : i < n) (h0 : st i = 0) {G : Nat → Int32} (hG : brs n T U p (p i) G) :
    ∃ b s, fs G 576 = nI b ∧ fs (fun j => if p j = p i then 1 else 0) n = nI s ∧ b + 1 ≤ s ∧ s ≤ n := by
  have hg : ∀ q, (decide (q < 576) && decide (G q = 1)) = true → q < 576 ∧ 0 < T q ∧ p (q / 24) = p i ∧ brg n T U (q / 24) (q % 24) := fun q hq => by
    rw [Bool.and_eq_true, decide_eq_true_eq, decide_eq_true_eq] at hq
    refine ⟨hq.1, ?_⟩
    refine Classical.byContradiction fun no => ?_
    rw [(hG q hq.1).2 no] at hq
    exact absurd hq.2 (by decide)
  have hab : ∀ q, (decide (q < 576) && decide (G q = 1)) = true → q / 24 < n ∧ q % 24 < n ∧ q / 24 < q % 24 ∧ Tie n T (q / 24) (q % 24) ∧ pr (q / 24) (q % 24) = q := fun q hq => by
    obtain ⟨g1, g2, -, -⟩ := hg q hq
    obtain ⟨a, b, e, hab, hb, -⟩ := hT q g1 (i_pos_ne g2)
    rw [show q / 24 = a by omega, show q % 24 = b by omega]
    exact ⟨by omega, hb, hab, ⟨by omega, hb, by omega, by rw [pr_of hab, ← e]; exact g2⟩, by rw [pr_of hab, e]⟩
  have hR : ∀ Q x y, Rq (fun q => decide (q < 576) && decide (G q = 1)) Q x y → Tie n T x y := fun Q => Rq_Tie hn hT (fun q _ hp => ⟨(hg q hp).1, (hg q hp).2.1⟩)
  have h1 := lbl_E2 (V := fun j => decide (p j = p i)) (P := fun q => decide (q < 576) && decide (G q = 1)) (n := n) (fun q hq => ⟨(hab q hq).1, (hab q hq).2.1⟩) (fun q hq => by
    obtain ⟨a1, a2, a3, a4, a5⟩ := hab q hq
    obtain ⟨g1, g2, g3, g4⟩ := hg q hq
    have ca := lbl_conn (P := fun q => decide (q < 576) && decide (G q = 1)) q (q / 24)
    have cb := lbl_conn (P := fun q => decide (q < 576) && decide (G q = 1)) q (q % 24)
    refine ⟨fun z => g4 ?_, decide_eq_true ?_⟩
    · rw [← z] at cb
      refine conn_mono (fun x y hxy => ?_) (conn_trans ca (conn_symm Rq_symm cb))
      have t := hR q x y hxy
      obtain ⟨q', hq', hp', o⟩ := hxy
      obtain ⟨-, -, -, -, b5⟩ := hab q' hp'
      have e : pr x y = q' := by
        rcases o with ⟨ex, ey⟩ | ⟨ex, ey⟩
        · rw [ex, ey]; exact b5
        · rw [ex, ey, pr_comm]; exact b5
      have t1 := t.1
      have t2 := t.2.1
      refine ⟨t, fun w => ?_, hl _ (by omega) t.2.2.2⟩
      rw [e, a5] at w
      have := (nI_eq (by omega) (by omega)).mp w
      omega
    · have pa : p (lbl (fun q => decide (q < 576) && decide (G q = 1)) q (q / 24)) = p i := (conn_const (p := p) (fun x y hxy => hP.2.1 x y (hR q x y hxy)) ca).symm.trans g3
      have pb : p (lbl (fun q => decide (q < 576) && decide (G q = 1)) q (q % 24)) = p i := (conn_const (p := p) (fun x y hxy => hP.2.1 x y (hR q x y hxy)) cb).symm.trans ((hP.2.1 _ _ a4).symm.trans g3)
      rcases Nat.le_total (lbl (fun q => decide (q < 576) && decide (G q = 1)) q (q / 24)) (lbl (fun q => decide (q < 576) && decide (G q = 1)) q (q % 24)) with e | e
      · rw [Nat.max_eq_right e]; exact pb
      · rw [Nat.max_eq_left e]; exact pa) 576
  rw [rt_0] at h1
  have e1 : ns (fun j => if decide (p j = p i) = true then 1 else 0) n = ns (fun j => if p j = p i then 1 else 0) n := ns_congr fun j _ => by
    by_cases z : p j = p i
    · rw [decide_eq_true z, if_pos rfl, if_pos z]
    · rw [decide_eq_false z, if_neg (by decide), if_neg z]
  have e2 : ns (fun q => if (decide (q < 576) && decide (G q = 1)) = true then 1 else 0) 576 = ns (fun q => if G q = 1 then 1 else 0) 576 := ns_congr fun q hq => by
    rw [decide_eq_true hq, Bool.true_and]
    by_cases z : G q = 1
    · rw [decide_eq_true z, if_pos rfl, if_pos z]
    · rw [decide_eq_false z, if_neg (by decide), if_neg z]
  have e3 : fs G 576 = fs (fun q => if G q = 1 then 1 else 0) 576 := fs_congr fun q hq => by
    by_cases z : G q = 1
    · rw [if_pos z, z]
    · rw [if_neg z]
      exact (hG q hq).2 (fun y => z ((hG q hq).1 y))
  have hpos : 0 < rt (fun j => decide (p j = p i)) (lbl (fun q => decide (q < 576) && decide (G q = 1)) 576) n := by
    have hi2 := lbl_idl (P := fun q => decide (q < 576) && decide (G q = 1)) 576 i
    refine ns_pos (k := lbl (fun q => decide (q < 576) && decide (G q = 1)) 576 i) (by omega) ?_
    rw [if_pos ⟨decide_eq_true (conn_const (p := p) (fun x y hxy => hP.2.1 x y (hR 576 x y hxy)) (lbl_conn 576 i)).symm, hi2.2⟩]
    exact Nat.zero_lt_one
  refine ⟨ns (fun q => if G q = 1 then 1 else 0) 576, ns (fun j => if p j = p i then 1 else 0) n, by rw [e3, fs_ns], fs_ns, ?_, ns_le1⟩
  rw [e1, e2] at h1
  omega
end Fo
/-! the least cut and the greatest hold, alike both ways -/
section Cut
variable {n a b : Nat} {T U : Nat → Int32}
theorem cap_symm {x y : Nat} : cap n T x y = cap n T y x := by
  unfold cap
  rw [tb_symm]
theorem cut_not {R : Nat → Bool} : cut n T (fun x => !R x) = cut n T R := by
  unfold cut
  rw [zs_swap]
  refine zs_congr fun x _ => zs_congr fun y _ => ?_
  have key : ∀ p q : Bool, (if (!p) = true ∧ (!q) = false then cap n T x y else 0) = (if q = true ∧ p = false then cap n T x y else 0) := fun p q => by
    cases p <;> cases q <;> simp
  show (if (!R y) = true ∧ (!R x) = false then cap n T y x else 0) = _
  rw [cap_symm (x := y) (y := x)]
  exact key (R y) (R x)
theorem MF_symm {v : Int} (h : MF n T a b v) : MF n T b a v := by
  obtain ⟨⟨R, h1, h2, h3⟩, h4⟩ := h
  refine ⟨⟨fun x => !R x, by simp [h2], by simp [h1], by rw [cut_not]; exact h3⟩, fun R' r1 r2 => ?_⟩
  have := h4 (fun x => !R' x) (by simp [r2]) (by simp [r1])
  rw [cut_not] at this
  exact this
theorem MF_conn {v : Int} (hn : n ≤ 24) (h : MF n T a b v) : 1 ≤ v ↔ conn (Tie n T) a b := by
  constructor
  · intro hv
    refine Classical.byContradiction fun no => ?_
    have hD : ∃ R : Nat → Bool, ∀ x, R x = true ↔ conn (Tie n T) a x := ⟨fun x => @decide _ (Classical.propDecidable (conn (Tie n T) a x)), fun x => @decide_eq_true_iff _ (Classical.propDecidable _)⟩
    obtain ⟨R, hR⟩ := hD
    have h1 : R a = true := (hR a).mpr conn_refl
    have h2 : R b = false := Bool.eq_false_iff.mpr fun z => no ((hR b).mp z)
    have h3 := h.2 R h1 h2
    have h4 : cut n T R = 0 := zs_zero fun x _ => zs_zero fun y _ => by
      by_cases q : R x = true ∧ R y = false
      · rw [if_pos q]
        unfold cap
        rw [if_neg]
        intro z
        have := (hR y).mpr (conn_step ((hR x).mp q.1) (tb_iff.mp z))
        rw [q.2] at this
        exact absurd this (by decide)
      · rw [if_neg q]
    omega
  · intro hc
    obtain ⟨⟨R, h1, h2, h3⟩, -⟩ := h
    refine Classical.byContradiction fun no => ?_
    have := hc (fun z => R z = true) h1 (fun x y hxy hx => by
      cases hy : R y with
      | true => rfl
      | false =>
        have hxn := hxy.1
        have hyn := hxy.2.1
        have nn : ∀ x y, 0 ≤ (if R x = true ∧ R y = false then cap n T x y else 0) := fun x y => by split; exact cap_nn; exact Int.le_refl _
        have e1 : (if R x = true ∧ R y = false then cap n T x y else 0) = 1 := by
          rw [if_pos ⟨hx, hy⟩]; unfold cap; rw [if_pos (tb_iff.mpr hxy)]
        have i1 := zs_one (g := fun y => if R x = true ∧ R y = false then cap n T x y else 0) (n := 24) (k := y) (fun y _ => nn x y) (by omega)
        have i2 := zs_one (g := fun x => zs (fun y => if R x = true ∧ R y = false then cap n T x y else 0) 24) (n := 24) (k := x) (fun x _ => zs_nn fun y _ => nn x y) (by omega)
        unfold cut at h3
        omega)
    rw [h2] at this
    exact absurd this (by decide)
theorem HO_symm {h : Nat} (g : HO n T U a b h) : HO n T U b a h :=
  ⟨g.1, fun i h1 h2 => ⟨fun c => (g.2 i h1 h2).mp (conn_symm rrb_symm c), fun c => conn_symm rrb_symm ((g.2 i h1 h2).mpr c)⟩⟩
theorem HO_conn {h : Nat} (g : HO n T U a b h) (h1 : 1 ≤ h) : conn (Tie n T) a b :=
  conn_mono (fun _ _ z => z.1) ((g.2 1 (Nat.le_refl _) (by omega)).mpr h1)
theorem HO_ge {h d : Nat} (hn : n ≤ 24) (g : HO n T U a b h) (t : Tie n T a b) (hd : d ≤ 50) (e : T (pr a b) - U (pr a b) = nI d) : d ≤ h := by
  rcases Nat.eq_zero_or_pos d with z | z
  · omega
  · have hp := pr_lt (a := a) (b := b) (by have := t.1; omega) (by have := t.2.1; omega)
    exact (g.2 d z hd).mp (conn_step conn_refl ⟨t, n_m1 (by omega), by rw [e]; exact Int32.le_refl _⟩)
/-- barrels hang together: they are of one piece -/
theorem conn_piece {st p : Nat → Int32} (hn : n ≤ 24) (hT : TOK n st T) (hP : POK n st (Tie n T) p) (ha : a < n) (hb : b < n) (hab : a ≠ b) : conn (Tie n T) a b ↔ (0 ≤ p a ∧ p a = p b) := by
  constructor
  · intro hc
    refine ⟨?_, conn_const hP.2.1 hc⟩
    have h0 : st a = 0 := by
      refine Classical.byContradiction fun no => hab ?_
      exact hc (fun z => a = z) rfl (fun x y hxy hx => by
        have hq := pr_lt (a := x) (b := y) (by have := hxy.1; omega) (by have := hxy.2.1; omega)
        obtain ⟨c, d, k1, k2, k3, k4, k5, -⟩ := hT _ hq (i_pos_ne hxy.2.2.2)
        rcases pr_cases k1 k2 (by omega) (by have := hxy.1; omega) (by have := hxy.2.1; omega) with ⟨ex, ey⟩ | ⟨ex, ey⟩
        · exact absurd (by rw [hx, ex]; exact k4) no
        · exact absurd (by rw [hx, ex]; exact k5) no)
    obtain ⟨i, h1, h2, -⟩ := hP.1 a ha h0
    rw [h2]
    exact n_nonneg (by omega)
  · intro ⟨h0, e⟩
    have hs : st a = 0 := Classical.byContradiction fun no => by
      rw [hP.2.2 a ha no] at h0
      exact absurd h0 (by decide)
    obtain ⟨i, h1, h2, h3⟩ := hP.1 a ha hs
    rw [h2] at e
    obtain ⟨-, -, -, -, h4⟩ := POK_self hn hP hb e.symm (by omega)
    exact conn_trans (conn_symm Tie_symm h3) h4
end Cut
