/-! flows: what leaves a set is what flows; ways are found until there is a set that no way leaves -/
def cap (n : Nat) (T : Nat → Int32) (x y : Nat) : Int := if tbb n T x y = true then 1 else 0
def net (F : Nat → Nat → Int) (x : Nat) : Int := zs (fun y => F x y) 24
def FL (n : Nat) (T : Nat → Int32) (a b : Nat) (v : Int) (F : Nat → Nat → Int) : Prop :=
  (∀ x y, F x y = - F y x) ∧ (∀ x y, F x y ≤ cap n T x y) ∧ ∀ x, x < 24 → net F x = (if x = a then v else 0) - (if x = b then v else 0)
def cut (n : Nat) (T : Nat → Int32) (R : Nat → Bool) : Int := zs (fun x => zs (fun y => if R x = true ∧ R y = false then cap n T x y else 0) 24) 24
def MF (n : Nat) (T : Nat → Int32) (a b : Nat) (v : Int) : Prop := (∃ R, R a = true ∧ R b = false ∧ v = cut n T R) ∧ ∀ R, R a = true → R b = false → v ≤ cut n T R
theorem MF_one {n : Nat} {T : Nat → Int32} {a b : Nat} {v v' : Int} (h : MF n T a b v) (h' : MF n T a b v') : v = v' := by
  obtain ⟨⟨R, h1, h2, h3⟩, h4⟩ := h
  obtain ⟨⟨R', h1', h2', h3'⟩, h4'⟩ := h'
  have a1 := h4 R' h1' h2'
  have a2 := h4' R h1 h2
  omega
theorem cap_nn {n : Nat} {T : Nat → Int32} {x y : Nat} : 0 ≤ cap n T x y := by unfold cap; split <;> omega
theorem cap_le {n : Nat} {T : Nat → Int32} {x y : Nat} : cap n T x y ≤ 1 := by unfold cap; split <;> omega
theorem FL_cut {n : Nat} {T : Nat → Int32} {a b : Nat} {v : Int} {F : Nat → Nat → Int} {R : Nat → Bool} (h : FL n T a b v F) (ha : a < 24) (hb : b < 24) (hab : a ≠ b) (h1 : R a = true) (h2 : R b = false) :
    v = zs (fun x => zs (fun y => if R x = true ∧ R y = false then F x y else 0) 24) 24 := by
  obtain ⟨hs, -, hn⟩ := h
  have e1 : zs (fun x => if R x = true then net F x else 0) 24 = v := by
    have : ∀ x, x < 24 → (if R x = true then net F x else 0) = if x = a then v else 0 := fun x hx => by
      by_cases hR : R x = true
      · rw [if_pos hR, hn x hx, if_neg (fun z : x = b => by rw [z, h2] at hR; exact absurd hR (by decide)), Int.sub_zero]
      · rw [if_neg hR, if_neg (fun z => hR (by rw [z]; exact h1))]
    rw [zs_congr this]
    exact zs_pick (g := fun _ => v) ha
  have e2 : ∀ x, x < 24 → (if R x = true then net F x else 0) = zs (fun y => if R x = true ∧ R y = false then F x y else 0) 24 + zs (fun y => if R x = true ∧ R y = true then F x y else 0) 24 := fun x hx => by
    rw [← zs_add]
    by_cases hR : R x = true
    · rw [if_pos hR]
      refine zs_congr fun y _ => ?_
      cases hy : R y <;> simp [hR]
    · rw [if_neg hR]
      exact (zs_zero fun y _ => by simp [hR]).symm
  have e3 : zs (fun x => zs (fun y => if R x = true ∧ R y = true then F x y else 0) 24) 24 = 0 := by
    have s : zs (fun x => zs (fun y => if R x = true ∧ R y = true then F x y else 0) 24) 24 = - zs (fun x => zs (fun y => if R x = true ∧ R y = true then F x y else 0) 24) 24 := by
      rw [← zs_neg]
      refine Eq.trans zs_swap (zs_congr fun y _ => ?_)
      rw [← zs_neg]
      refine zs_congr fun x _ => ?_
      by_cases q : R x = true ∧ R y = true
      · rw [if_pos q, if_pos ⟨q.2, q.1⟩]; exact hs x y
      · rw [if_neg q, if_neg (fun z => q ⟨z.2, z.1⟩)]; rfl
    omega
  rw [zs_congr e2, zs_add, e3, Int.add_zero] at e1
  exact e1.symm
theorem FL_le {n : Nat} {T : Nat → Int32} {a b : Nat} {v : Int} {F : Nat → Nat → Int} {R : Nat → Bool} (h : FL n T a b v F) (ha : a < 24) (hb : b < 24) (hab : a ≠ b) (h1 : R a = true) (h2 : R b = false) : v ≤ cut n T R := by
  rw [FL_cut h ha hb hab h1 h2]
  refine zs_le fun x _ => zs_le fun y _ => ?_
  split
  · exact h.2.1 x y
  · exact Int.le_refl _
/-- no way leaves R -/
theorem FL_done {n : Nat} {T : Nat → Int32} {a b : Nat} {v : Int} {F : Nat → Nat → Int} {R : Nat → Bool} (h : FL n T a b v F) (ha : a < 24) (hb : b < 24) (hab : a ≠ b) (h1 : R a = true) (h2 : R b = false) (hc : ∀ x y, R x = true → tbb n T x y = true → F x y ≤ 0 → R y = true) : MF n T a b v := by
  refine ⟨⟨R, h1, h2, ?_⟩, fun R' h1' h2' => FL_le h ha hb hab h1' h2'⟩
  rw [FL_cut h ha hb hab h1 h2]
  refine zs_congr fun x _ => zs_congr fun y _ => ?_
  by_cases q : R x = true ∧ R y = false
  · rw [if_pos q, if_pos q]
    have hle := h.2.1 x y
    have hge := h.2.1 y x
    have hs := h.1 x y
    unfold cap at hle hge ⊢
    by_cases t : tbb n T x y = true
    · rw [if_pos t] at hle ⊢
      by_cases z : F x y ≤ 0
      · have := hc x y q.1 t z
        rw [q.2] at this; exact absurd this (by decide)
      · omega
    · rw [if_neg t] at hle ⊢
      rw [tb_symm, if_neg t] at hge
      omega
  · rw [if_neg q, if_neg q]
theorem cut_le {n : Nat} {T : Nat → Int32} {R : Nat → Bool} : cut n T R ≤ 576 := by
  have : ∀ x, x < 24 → zs (fun y => if R x = true ∧ R y = false then cap n T x y else 0) 24 ≤ 24 := fun x _ => by
    have := zs_const (n := 24) (c := 1) (by decide) (g := fun y => if R x = true ∧ R y = false then cap n T x y else 0) (fun y _ => by split; exact cap_le; decide)
    omega
  have := zs_const (n := 24) (c := 24) (by decide) this
  unfold cut
  omega
theorem cut_one {n : Nat} {T : Nat → Int32} {a : Nat} (ha : a < 24) : cut n T (fun x => decide (x = a)) = (deg n T a : Int) := by
  unfold cut deg
  rw [← zs_ns]
  have : ∀ x, x < 24 → zs (fun y => if (decide (x = a)) = true ∧ (decide (y = a)) = false then cap n T x y else 0) 24 = if x = a then zs (fun y => (((if tbb n T a y = true then 1 else 0 : Nat)) : Int)) 24 else 0 := fun x _ => by
    by_cases e : x = a
    · subst e
      rw [if_pos rfl]
      refine zs_congr fun y _ => ?_
      unfold cap
      by_cases t : tbb n T x y = true
      · have := (tb_iff.mp t).2.2.1
        rw [if_pos t, if_pos t, if_pos ⟨by simp, decide_eq_false (fun z => this z.symm)⟩]; rfl
      · rw [if_neg t, if_neg t]; split <;> rfl
    · rw [if_neg e]
      exact zs_zero fun y _ => if_neg (fun z => e (of_decide_eq_true z.1))
  rw [zs_congr this]
  exact zs_pick (g := fun _ => zs (fun y => (((if tbb n T a y = true then 1 else 0 : Nat)) : Int)) 24) ha
/-- one more on the way from p to c -/
def bump (F : Nat → Nat → Int) (p c : Nat) : Nat → Nat → Int := fun x y => F x y + (if x = p ∧ y = c then 1 else 0) - (if x = c ∧ y = p then 1 else 0)
theorem bump_net {F : Nat → Nat → Int} {p c x : Nat} (hp : p < 24) (hc : c < 24) : net (bump F p c) x = net F x + (if x = p then 1 else 0) - (if x = c then 1 else 0) := by
  unfold net bump
  have : ∀ y, y < 24 → F x y + (if x = p ∧ y = c then 1 else 0) - (if x = c ∧ y = p then 1 else 0) = F x y + ((if y = c then (if x = p then 1 else 0) else 0) + - (if y = p then (if x = c then 1 else 0) else 0)) := fun y _ => by
    by_cases h1 : y = c <;> by_cases h2 : y = p <;> by_cases h3 : x = p <;> by_cases h4 : x = c <;> simp [h1, h2, h3, h4] <;> omega
  have e : zs (fun y => F x y) 24 = zs (F x) 24 := rfl
  rw [zs_congr this, zs_add, zs_add, zs_neg, zs_pick (g := fun _ => if x = p then 1 else 0) hc, zs_pick (g := fun _ => if x = c then 1 else 0) hp]
  omega
/-- a search by rows: who was come to, in which order, from where -/
def BS (n a known : Nat) (L : Nat → Nat) (Rd : Nat → Bool) (rk P : Nat → Nat) (res : Nat → Nat → Prop) : Prop :=
  Rd a = true ∧ (∀ x, Rd x = true → x < n ∧ rk x < known ∧ L (rk x) = x) ∧ (∀ j, j < known → Rd (L j) = true ∧ rk (L j) = j)
  ∧ (∀ x, Rd x = true → x ≠ a → Rd (P x) = true ∧ rk (P x) < rk x ∧ res (P x) x) ∧ known = ns (fun x => if Rd x = true then 1 else 0) n
def un {α : Type} (f : Nat → α) (k : Nat) (x : α) : Nat → α := fun j => if j = k then x else f j
theorem un_a {α : Type} {f : Nat → α} {k : Nat} {x : α} : un f k x k = x := if_pos rfl
theorem un_b {α : Type} {f : Nat → α} {k j : Nat} {x : α} (h : j ≠ k) : un f k x j = f j := if_neg h
theorem BS_start {n a : Nat} {res : Nat → Nat → Prop} {L : Nat → Nat} (ha : a < n) (hL : L 0 = a) : BS n a 1 L (fun x => decide (x = a)) (fun _ => 0) (fun _ => a) res := by
  refine ⟨decide_eq_true rfl, fun x hx => ?_, fun j hj => ?_, fun x hx hne => absurd (of_decide_eq_true hx) hne, ?_⟩
  · obtain rfl := of_decide_eq_true hx
    exact ⟨ha, Nat.one_pos, hL⟩
  · obtain rfl : j = 0 := by omega
    exact ⟨decide_eq_true hL, rfl⟩
  · simp only [decide_eq_true_eq]
    exact (ns_pick (g := fun _ => 1) ha).symm
theorem BS_room {n a known x : Nat} {L : Nat → Nat} {Rd : Nat → Bool} {rk P : Nat → Nat} {res : Nat → Nat → Prop} (h : BS n a known L Rd rk P res) (hx : x < n) (hr : Rd x = false) : known < n := by
  rw [h.2.2.2.2]
  have h1 := ns_lt (g := fun x => if Rd x = true then 1 else 0) (h := fun _ => 1) (n := n) (k := x) (fun j _ => by split <;> omega) hx (by rw [hr]; decide)
  have h2 : ∀ k, ns (fun _ => 1) k = k := fun k => by
    induction k with
    | zero => rfl
    | succ k ih => rw [ns, ih]
  rw [h2] at h1
  exact h1
theorem BS_le {n a known : Nat} {L : Nat → Nat} {Rd : Nat → Bool} {rk P : Nat → Nat} {res : Nat → Nat → Prop} (h : BS n a known L Rd rk P res) : known ≤ n := by
  rw [h.2.2.2.2]; exact ns_le1
theorem BS_add {n a known x y : Nat} {L : Nat → Nat} {Rd : Nat → Bool} {rk P : Nat → Nat} {res : Nat → Nat → Prop} (h : BS n a known L Rd rk P res) (hx : x < n) (hr : Rd x = false) (hy : Rd y = true) (hres : res y x) :
    BS n a (known + 1) (un L known x) (un Rd x true) (un rk x known) (un P x y) res := by
  obtain ⟨h1, h2, h3, h4, h5⟩ := h
  have hne : ∀ z, Rd z = true → z ≠ x := fun z hz q => by rw [q, hr] at hz; exact absurd hz (by decide)
  refine ⟨by rw [un_b (hne a h1)]; exact h1, fun z hz => ?_, fun j hj => ?_, fun z hz hza => ?_, ?_⟩
  · by_cases q : z = x
    · subst q
      rw [un_a, un_a]; exact ⟨hx, by omega, rfl⟩
    · rw [un_b q] at hz
      obtain ⟨g1, g2, g3⟩ := h2 z hz
      rw [un_b q, un_b (by omega)]
      exact ⟨g1, by omega, g3⟩
  · by_cases q : j = known
    · subst q
      rw [un_a, un_a, un_a]; exact ⟨rfl, rfl⟩
    · obtain ⟨g1, g2⟩ := h3 j (by omega)
      have := hne _ g1
      rw [un_b q, un_b this, un_b this]
      exact ⟨g1, g2⟩
  · by_cases q : z = x
    · subst q
      rw [un_a, un_a]
      have := hne y hy
      rw [un_b this, un_b this]
      exact ⟨hy, (h2 y hy).2.1, hres⟩
    · rw [un_b q] at hz
      obtain ⟨g1, g2, g3⟩ := h4 z hz hza
      have := hne _ g1
      rw [un_b q, un_b q, un_b this, un_b this]
      exact ⟨g1, g2, g3⟩
  · rw [h5]
    have : ∀ k, k ≤ n → ns (fun z => if un Rd x true z = true then 1 else 0) k = ns (fun z => if Rd z = true then 1 else 0) k + (if x < k then 1 else 0) := fun k => by
      induction k with
      | zero => intro _; rfl
      | succ k ih =>
        intro hk
        rw [ns, ns, ih (by omega)]
        by_cases q : k = x
        · subst q
          rw [un_a, if_pos rfl, hr, if_neg (Nat.lt_irrefl k), if_pos (Nat.lt_succ_self k)]; simp
        · rw [un_b q]
          have hiff : (if x < k + 1 then 1 else 0 : Nat) = if x < k then 1 else 0 := by split <;> split <;> omega
          rw [hiff]; omega
    rw [this n (Nat.le_refl _), if_pos hx]
/-- on the way back from b: at c; ahead of c nothing has changed -/
def WK (n : Nat) (T : Nat → Int32) (a b : Nat) (v : Int) (F0 : Nat → Nat → Int) (Rd : Nat → Bool) (rk : Nat → Nat) (c : Nat) (F : Nat → Nat → Int) : Prop :=
  (∀ x y, F x y = - F y x) ∧ (∀ x y, F x y ≤ cap n T x y) ∧ (∀ x, x < 24 → net F x = (if x = a then v else 0) - (if x = b then v + 1 else 0) + (if x = c then 1 else 0)) ∧ ∀ x y, Rd x = true → Rd y = true → rk x ≤ rk c → rk y ≤ rk c → F x y = F0 x y
def rsd (n : Nat) (T : Nat → Int32) (F : Nat → Nat → Int) (x y : Nat) : Prop := tbb n T x y = true ∧ F x y ≤ 0
theorem WK_start {n : Nat} {T : Nat → Int32} {a b : Nat} {v : Int} {F : Nat → Nat → Int} {Rd : Nat → Bool} {rk : Nat → Nat} (h : FL n T a b v F) (hab : a ≠ b) : WK n T a b v F Rd rk b F := by
  refine ⟨h.1, h.2.1, fun x hx => ?_, fun _ _ _ _ _ _ => rfl⟩
  rw [h.2.2 x hx]
  by_cases q : x = b
  · rw [if_pos q, if_pos q, if_pos q]; omega
  · rw [if_neg q, if_neg q, if_neg q]; omega
theorem WK_end {n : Nat} {T : Nat → Int32} {a b : Nat} {v : Int} {F0 F : Nat → Nat → Int} {Rd : Nat → Bool} {rk : Nat → Nat} (h : WK n T a b v F0 Rd rk a F) : FL n T a b (v + 1) F := by
  refine ⟨h.1, h.2.1, fun x hx => ?_⟩
  rw [h.2.2.1 x hx]
  by_cases q : x = a
  · rw [if_pos q, if_pos q, if_pos q]; omega
  · rw [if_neg q, if_neg q, if_neg q]; omega
theorem WK_step {n a b known : Nat} {T : Nat → Int32} {v : Int} {F0 F : Nat → Nat → Int} {L : Nat → Nat} {Rd : Nat → Bool} {rk P : Nat → Nat} (hn : n ≤ 24) (hB : BS n a known L Rd rk P (rsd n T F0)) {c : Nat} (h : WK n T a b v F0 Rd rk c F) (hc : Rd c = true) (hca : c ≠ a) :
    Rd (P c) = true ∧ rk (P c) < rk c ∧ P c < n ∧ c < n ∧ Tie n T (P c) c ∧ F (P c) c ≤ 0 ∧ WK n T a b v F0 Rd rk (P c) (bump F (P c) c) := by
  obtain ⟨g1, g2, g3⟩ := hB.2.2.2.1 c hc hca
  have c1 := (hB.2.1 c hc).1
  have c2 := (hB.2.1 _ g1).1
  obtain ⟨h1, h2, h3, h4⟩ := h
  have t := tb_iff.mp g3.1
  have hne : P c ≠ c := t.2.2.1
  have e : F (P c) c = F0 (P c) c := h4 _ _ g1 hc (by omega) (Nat.le_refl _)
  have hle : F (P c) c ≤ 0 := by rw [e]; exact g3.2
  refine ⟨g1, g2, c2, c1, t, hle, fun x y => ?_, fun x y => ?_, fun x hx => ?_, fun x y hx hy hrx hry => ?_⟩
  · unfold bump
    have := h1 x y
    by_cases q1 : x = P c ∧ y = c
    · rw [if_pos q1, if_neg (fun z => hne (q1.1.symm.trans z.1)), if_neg (fun z => hne (z.1.symm.trans q1.2)), if_pos ⟨q1.2, q1.1⟩]; omega
    · by_cases q2 : x = c ∧ y = P c
      · rw [if_neg q1, if_pos q2, if_pos ⟨q2.2, q2.1⟩, if_neg (fun z => q1 ⟨z.2, z.1⟩)]; omega
      · rw [if_neg q1, if_neg q2, if_neg (fun z => q2 ⟨z.2, z.1⟩), if_neg (fun z => q1 ⟨z.2, z.1⟩)]; omega
  · unfold bump
    have := h2 x y
    by_cases q1 : x = P c ∧ y = c
    · rw [if_pos q1, if_neg (fun z => hne (q1.1.symm.trans z.1))]
      rw [q1.1, q1.2] at this ⊢
      have ec : cap n T (P c) c = 1 := by unfold cap; rw [if_pos g3.1]
      rw [ec]; omega
    · rw [if_neg q1]
      split <;> omega
  · rw [bump_net (by omega) (by omega), h3 x hx]
    by_cases q1 : x = c
    · rw [if_pos q1, if_neg (fun z : x = P c => hne (z.symm.trans q1))]; omega
    · rw [if_neg q1]; omega
  · unfold bump
    have k1 : x ≠ c := fun q => by rw [q] at hrx; omega
    have k2 : y ≠ c := fun q => by rw [q] at hry; omega
    rw [if_neg (fun z => k2 z.2), if_neg (fun z => k1 z.1), h4 x y hx hy (by omega) (by omega)]; omega
