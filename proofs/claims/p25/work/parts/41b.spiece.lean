/-! what hangs together in the law's own raft, by rounds over its lashings -/
theorem ns_card {g : Nat → Nat} {n : Nat} (h : ∀ j, j < n → g j ≤ 1) : ns g n ≤ n := by
  induction n with
  | zero => exact Nat.le_refl _
  | succ n ih =>
    rw [ns]
    have := ih (fun j hj => h j (by omega))
    have := h n (by omega)
    omega
theorem ns_pos {g : Nat → Nat} {n k : Nat} (hk : k < n) (h : 0 < g k) : 0 < ns g n :=
  Nat.lt_of_le_of_lt (Nat.zero_le _) (ns_lt (g := fun _ => 0) (h := g) (fun _ _ => Nat.zero_le _) hk h)
def cn (n : Nat) (is : Nat → Int32) : Nat := ns (fun i => if is i = 1 then 1 else 0) n
def b01 (n : Nat) (is : Nat → Int32) : Prop := ∀ i, i < n → is i = 0 ∨ is i = 1
/-- the first j lashings bind nothing more to is -/
def clo (κ : Nat → Nat) (is : Nat → Int32) (j : Nat) : Prop := ∀ i, i < j → is (κ i / 24) = is (κ i % 24)
theorem upd_two {s : Nat → Int32} {a b : Nat} {x : Int32} (i : Nat) : upd (upd s a x) b x i = if i = a ∨ i = b then x else s i := by
  unfold upd
  by_cases z : i = b
  · rw [if_pos z, if_pos (Or.inr z)]
  · rw [if_neg z]
    by_cases y : i = a
    · rw [if_pos y, if_pos (Or.inl y)]
    · rw [if_neg y, if_neg (fun o => o.elim y z)]
section SMp
variable {n k m nR : Nat} {A : Nat → Nat → Int32} {sg κ : Nat → Nat} {bF tF pF : Nat → Nat → Int32} {p : Nat → Int32}
theorem s_pieceI (h : SM n k m A nR sg κ bF tF pF) (hW : WA n k A) {P : Int32} (hp : ∀ a b, Tie n (A kM_strength) a b → p a = p b) {is : Nat → Int32} (h01 : b01 n is) (hP : ∀ i, i < n → is i = 1 → p i = P) :
    ∃ is', jS_piece_L53 sg n nR tF m 0 is = some is' ∧ (b01 n is' ∧ (∀ i, i < n → is i = 1 → is' i = 1) ∧ (∀ i, i < n → is' i = 1 → p i = P) ∧ ((is' = is ∧ clo κ is m) ∨ (¬ clo κ is m ∧ ∃ i, i < n ∧ is i = 0 ∧ is' i = 1))) := by
  have hn := hW.1
  refine itN0 (fun g j s => jS_piece_L53 sg n nR tF g j s) m (fun j s => b01 n s ∧ (∀ i, i < n → is i = 1 → s i = 1) ∧ (∀ i, i < n → s i = 1 → p i = P) ∧ ((s = is ∧ clo κ is j) ∨ (¬ clo κ is m ∧ ∃ i, i < n ∧ is i = 0 ∧ s i = 1))) _ ?_ (fun s hs => ⟨s, rfl, hs⟩) (fun g j s hj hs => ?_)
  · exact ⟨h01, fun _ _ e => e, hP, Or.inl ⟨rfl, fun i hi => absurd hi (Nat.not_lt_zero i)⟩⟩
  · obtain ⟨s1, s2, s3, s4⟩ := hs
    obtain ⟨a, b, hab, hb, e, f0, f1, -, -, -, -, -, ht, hR⟩ := s_at h hW hj
    rw [jS_piece_L53, chkP_n hR]
    simp (disch := omega) only [rd0, rd1, f0, f1, chk_n, rd_n, wr_n]
    by_cases q : s a = s b
    · refine ⟨s, ⟨s1, s2, s3, ?_⟩, by rw [if_pos q]⟩
      rcases s4 with ⟨z, c⟩ | c
      · refine Or.inl ⟨z, fun i hi => ?_⟩
        by_cases y : i = j
        · rw [y, show κ j / 24 = a by omega, show κ j % 24 = b by omega, ← z]
          exact q
        · exact c i (by omega)
      · exact Or.inr c
    · have hpab := hp a b ht
      have h1 : p a = P := by
        rcases s1 a (by omega) with x | x
        · rcases s1 b hb with y | y
          · exact absurd (x.trans y.symm) q
          · exact hpab.trans (s3 b hb y)
        · exact s3 a (by omega) x
      refine ⟨upd (upd s a 1) b 1, ⟨fun i hi => ?_, fun i hi o => ?_, fun i hi o => ?_, ?_⟩, by rw [if_neg q]⟩
      · rw [upd_two]
        by_cases z : i = a ∨ i = b
        · rw [if_pos z]
          exact Or.inr rfl
        · rw [if_neg z]
          exact s1 i hi
      · rw [upd_two]
        by_cases z : i = a ∨ i = b
        · rw [if_pos z]
        · rw [if_neg z]
          exact s2 i hi o
      · by_cases z : i = a ∨ i = b
        · rcases z with z | z
          · rw [z]
            exact h1
          · rw [z]
            exact hpab.symm.trans h1
        · rw [upd_two, if_neg z] at o
          exact s3 i hi o
      · refine Or.inr ?_
        rcases s4 with ⟨z, c⟩ | ⟨c, i, hi, c1, c2⟩
        · refine ⟨fun y => q ?_, ?_⟩
          · have := y j hj
            rw [show κ j / 24 = a by omega, show κ j % 24 = b by omega, ← z] at this
            exact this
          · rw [← z]
            rcases s1 a (by omega) with x | x
            · exact ⟨a, by omega, x, by rw [upd_two, if_pos (Or.inl rfl)]⟩
            · rcases s1 b hb with y | y
              · exact ⟨b, hb, y, by rw [upd_two, if_pos (Or.inr rfl)]⟩
              · exact absurd (x.trans y.symm) q
        · refine ⟨c, i, hi, c1, ?_⟩
          rw [upd_two]
          by_cases z : i = a ∨ i = b
          · rw [if_pos z]
          · rw [if_neg z]
            exact c2
theorem s_pieceO (h : SM n k m A nR sg κ bF tF pF) (hW : WA n k A) {P : Int32} (hp : ∀ a b, Tie n (A kM_strength) a b → p a = p b) {is : Nat → Int32} (h01 : b01 n is) (hP : ∀ i, i < n → is i = 1 → p i = P) {b : Nat} (hb : b < n) (hb1 : is b = 1) :
    ∃ r, jS_piece_L29 m sg n nR tF n 0 is = some r ∧ (b01 n r ∧ r b = 1 ∧ (∀ i, i < n → r i = 1 → p i = P) ∧ clo κ r m) := by
  refine itN0 (fun g j s => jS_piece_L29 m sg n nR tF g j s) n (fun j s => b01 n s ∧ s b = 1 ∧ (∀ i, i < n → s i = 1 → p i = P) ∧ (clo κ s m ∨ j + 1 ≤ cn n s)) _ ?_ (fun s hs => ⟨s, rfl, hs.1, hs.2.1, hs.2.2.1, ?_⟩) (fun g j s hj hs => ?_)
  · refine ⟨h01, hb1, hP, Or.inr ?_⟩
    have : 0 < cn n is := ns_pos hb (by show 0 < (if is b = 1 then 1 else 0); rw [if_pos hb1]; exact Nat.zero_lt_one)
    omega
  · rcases hs.2.2.2 with c | c
    · exact c
    · have : cn n s ≤ n := ns_card (fun i _ => by show (if s i = 1 then 1 else 0) ≤ 1; by_cases z : s i = 1 <;> simp [z])
      omega
  · obtain ⟨s1, s2, s3, s4⟩ := hs
    obtain ⟨is', e', i1, i2, i3, i4⟩ := s_pieceI h hW hp s1 s3
    refine ⟨is', ⟨i1, i2 b hb s2, i3, ?_⟩, by rw [jS_piece_L29, chkP_n h.2.2.2.1, e', bnd_n]⟩
    rcases i4 with ⟨z, c⟩ | ⟨c, i, hi, c1, c2⟩
    · rw [z]
      exact Or.inl c
    · have l1 := s4.resolve_left c
      have l2 : cn n s < cn n is' := ns_lt (fun i hi => by
          show (if s i = 1 then 1 else 0) ≤ (if is' i = 1 then 1 else 0)
          by_cases z : s i = 1
          · rw [if_pos z, if_pos (i2 i hi z)]
            exact Nat.le_refl _
          · rw [if_neg z]
            exact Nat.zero_le _) hi (by
          show (if s i = 1 then 1 else 0) < (if is' i = 1 then 1 else 0)
          rw [if_neg (by rw [c1]; decide), if_pos c2]
          exact Nat.zero_lt_one)
      exact Or.inr (by omega)
/-- a set that the lashings close is closed under Tie -/
theorem s_clo (h : SM n k m A nR sg κ bF tF pF) (hn : n ≤ 24) {r : Nat → Int32} (c : clo κ r m) (x y : Nat) (t : Tie n (A kM_strength) x y) : r x = r y := by
  obtain ⟨t1, t2, t3, t4⟩ := t
  obtain ⟨i, hi, ei⟩ := h.2.2.1.2.1.2.2 (pr x y) (pr_lt (by omega) (by omega)) (decide_eq_true t4)
  have e := c i hi
  rw [ei] at e
  rcases Nat.lt_or_gt_of_ne t3 with o | o
  · rw [pr_of o, show (24 * x + y) / 24 = x by omega, show (24 * x + y) % 24 = y by omega] at e
    exact e
  · rw [pr_comm, pr_of o, show (24 * y + x) / 24 = y by omega, show (24 * y + x) % 24 = x by omega] at e
    exact e.symm
theorem s_piece (h : SM n k m A nR sg κ bF tF pF) (hW : WA n k A) (hP : PN n A p) {b : Nat} (hb : b < n) : ∃ is, jS_piece n m nR sg bF tF (nI b) = some is ∧ ∀ j, j < n → is j = if A kB_state b = 0 ∧ p j = p b then 1 else 0 := by
  have hn := hW.1
  unfold jS_piece
  rw [chkP_n hn, chk_n hb (by omega), clamp_n (by omega), rd6, (h.1 b hb).2.2.2.2.1]
  by_cases z : A kB_state b = 0
  · rw [if_pos (by rw [z]; decide), chk_n hb (by omega), chkP_n hn, wr_n (by omega)]
    obtain ⟨r, e, r1, r2, r3, r4⟩ := s_pieceO (p := p) (P := p b) (is := upd (fun _ => 0) b 1) h hW hP.2.1 (fun i hi => by
        unfold upd
        by_cases y : i = b
        · rw [if_pos y]
          exact Or.inr rfl
        · rw [if_neg y]
          exact Or.inl rfl) (fun i hi o => by
        unfold upd at o
        by_cases y : i = b
        · rw [y]
        · rw [if_neg y] at o
          exact absurd (show (0 : Int32) = 1 from o) (by decide)) hb upd_a
    refine ⟨r, by rw [e, bnd_n], fun j hj => ?_⟩
    by_cases y : p j = p b
    · rw [if_pos ⟨z, y⟩]
      obtain ⟨i, i1, i2, i3⟩ := hP.1 b hb z
      obtain ⟨-, -, -, -, i4⟩ := POK_self hn hP hj (y.trans i2) (by omega)
      have c : r i = r j := conn_const (s_clo h hn r4) i4
      have c' : r i = r b := conn_const (s_clo h hn r4) i3
      rw [← c, c', r2]
    · rw [if_neg (fun q => y q.2)]
      rcases r1 j hj with q | q
      · exact q
      · exact absurd (r3 j hj q) y
  · rw [if_neg (by
      rcases h.2.2.2.2.2.1 b hb with q | q | q
      · exact absurd q z
      · rw [q]; decide
      · rw [q]; decide)]
    exact ⟨fun _ => 0, rfl, fun j hj => by rw [if_neg (fun q => z q.1)]⟩
theorem s_name (h : SM n k m A nR sg κ bF tF pF) (hW : WA n k A) (hP : PN n A p) {b : Nat} (hb : b < n) : jS_name n m nR sg bF tF (nI b) = some (p b) := by
  have hn := hW.1
  unfold jS_name
  obtain ⟨is, e, o⟩ := s_piece h hW hP hb
  rw [e, bnd_n, chkP_n hn]
  by_cases z : A kB_state b = 0
  · obtain ⟨i, i1, i2, i3⟩ := hP.1 b hb z
    obtain ⟨-, -, -, i4, -⟩ := POK_self hn hP hb i2 (by omega)
    have l : ∃ q, jS_name_L9 is n 0 = some q ∧ q = Sum.inl (nI i) := by
      refine itN (fun g j (_ : Unit) => jS_name_L9 is g j) n (fun j _ => j ≤ i) (fun q => q = Sum.inl (nI i)) (fun s hs => absurd hs (by omega)) (fun g j s hj hs => ?_) n 0 () (by omega) (Nat.zero_le _)
      by_cases y : j = i
      · refine Or.inl ⟨_, ?_, rfl⟩
        have oj : is j = 1 := (o j hj).trans (if_pos ⟨z, by rw [y, i4, i2]⟩)
        rw [jS_name_L9, rd_n (by omega), oj, if_neg one_ne, y]
      · refine Or.inr ⟨(), by omega, ?_⟩
        have oj : is j = 0 := (o j hj).trans (if_neg (fun q => y (Nat.le_antisymm hs (POK_self hn hP hj (q.2.trans i2) (by omega)).1)))
        rw [jS_name_L9, rd_n (by omega), oj, if_pos rfl]
    obtain ⟨q, l1, l2⟩ := l
    rw [l1, l2, bnd_n, sel_a, i2]
  · have l : jS_name_L9 is n 0 = some (Sum.inr ()) := itNF (s0 := ()) (fun g j (_ : Unit) => jS_name_L9 is g j) (fun _ => ()) n rfl rfl (fun g j hj => by
      have oj : is j = 0 := (o j hj).trans (if_neg (fun q => z q.1))
      rw [jS_name_L9, rd_n (by omega), oj, if_pos rfl])
    rw [l, bnd_n, sel_b, hP.2.2 b hb z]
end SMp
