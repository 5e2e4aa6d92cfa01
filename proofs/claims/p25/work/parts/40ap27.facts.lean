/-! what both tell of one state -/
theorem r_fx0 {fx : Nat → Int32} {j : Nat} (h : j < 24) : jX7_fx fx (nI j) 0 = some (fx (3 * j + 0)) := r_fx (w := 0) (by omega)
theorem r_fx1 {fx : Nat → Int32} {j : Nat} (h : j < 24) : jX7_fx fx (nI j) 1 = some (fx (3 * j + 1)) := r_fx (w := 1) (by omega)
theorem r_ba1 {tb : Nat → Int32} {j : Nat} (h : j < 24) : jX7_ba tb (nI j) 1 = some (tb (5 * j + 1)) := r_ba (w := 1) (by omega)
theorem r_ba2 {tb : Nat → Int32} {j : Nat} (h : j < 24) : jX7_ba tb (nI j) 2 = some (tb (5 * j + 2)) := r_ba (w := 2) (by omega)
theorem r_set1 {tb : Nat → Int32} {j : Nat} {x : Int32} (h : j < 24) : jX7_set tb (nI j) 1 x = some (upd tb (5 * j + 1) x) := r_set (w := 1) (by omega)
section Facts
variable {n k m : Nat} {A : Nat → Nat → Int32} {li lk wa go pe st x y se ks p f s t u fx tb T U pp pc nu : Nat → Int32} {κ : Nat → Nat}
theorem b_state {a : Int32} (hn : n ≤ 24) (hC : CR n k A li lk wa go pe st x y se ks) (hR : RM n k A fx tb T U pp) : ∃ v, jX0_countOf (nI n) st a = some v ∧ jX7_withState (nI n) tb a = some v := by
  refine ⟨_, c_countOf hn, ?_⟩
  rw [r_withState hn]
  congr 1
  exact fs_congr fun j hj => by rw [(hR.1 j hj).2.2.2.2.1, (hC.1 j hj).2.2.2.2.2.1]
theorem b_crew {a : Int32} (hk : k ≤ 8) (hC : CR n k A li lk wa go pe st x y se ks) (hR : RM n k A fx tb T U pp) : ∃ v, jX1_countOf (nI k) ks a = some v ∧ jX7_crewWith (nI k) pp a = some v := by
  refine ⟨_, c_kcount hk, ?_⟩
  rw [r_crewWith hk]
  congr 1
  exact fs_congr fun j hj => by rw [(hR.2.2.2.1 j hj).2, (hC.2.1 j hj).2]
theorem r_tiesOf (hn : n ≤ 24) {b : Nat} (hb : b < n) : jX7_tiesOf (nI n) T (nI b) = some (nI (deg n T b)) := by
  have h24 : deg n T b = ns (fun y => if tbb n T b y = true then 1 else 0) n := by
    unfold deg
    have : ∀ d, n + d ≤ 24 → ns (fun y => if tbb n T b y = true then 1 else 0) (n + d) = ns (fun y => if tbb n T b y = true then 1 else 0) n := fun d => by
      induction d with
      | zero => intro _; rfl
      | succ d ih =>
        intro hd
        rw [← Nat.add_assoc, ns, ih (by omega), if_neg (fun z => by have := (tb_iff.mp z).2.1; omega), Nat.add_zero]
    have := this (24 - n) (by omega)
    rw [show n + (24 - n) = 24 by omega] at this
    exact this
  rw [h24, ← fs_ns (P := fun y => tbb n T b y = true)]
  refine bnd_i (itF0 (fun g s v => jX7_tiesOf_L4 (nI n) T (nI b) g s v) (fs (fun y => if tbb n T b y = true then 1 else 0)) n (by omega) rfl (fun g => ?_) (fun g j hj => ?_)) rfl
  · rw [jX7_tiesOf_L4, if_pos (Int32.le_refl _)]
  · rw [jX7_tiesOf_L4, if_neg (fun q => by have := (nI_leI (by omega) (by omega)).mp q; omega), nI_1]
    by_cases e : j = b
    · subst e
      rw [if_pos rfl, fs, if_neg (fun z => (tb_iff.mp z).2.2.1 rfl)]
    · rw [if_neg (fun q => e ((nI_eq (by omega) (by omega)).mp q)), r_tied (by omega) (by omega), bnd_n, pr_comm]
      by_cases h0 : 0 < T (pr b j)
      · rw [if_pos h0, if_neg one_ne, fs, if_pos (tb_iff.mpr ⟨hb, hj, fun z => e z.symm, h0⟩)]
      · rw [if_neg h0, if_pos rfl, fs, if_neg (fun z => h0 (tb_iff.mp z).2.2.2)]
theorem c_countAt (hn : n ≤ 24) {TT UU stt : Nat → Int32} (Q : QOK m f s t u κ TT UU) (hT : TOK n stt TT) {b : Nat} (hb : b < n) : jX2_countAt (nI m) f s (nI b) = some (nI (deg n TT b)) := by
  have hm := Q.1
  rw [← deg_eq hn Q.2.1 hT hb, ← fs_ns (P := fun i => κ i / 24 = b ∨ κ i % 24 = b)]
  refine bnd_i (itF0 (fun g s' v => jX2_countAt_L4 (nI m) f s (nI b) g s' v) (fs (fun i => if κ i / 24 = b ∨ κ i % 24 = b then 1 else 0)) m (by omega) rfl (fun g => ?_) (fun g i hi => ?_)) rfl
  · rw [jX2_countAt_L4, if_pos (Int32.le_refl _)]
  · obtain ⟨p', q', k1, k2, k3, k4, k5, fp, sq, -, -⟩ := Q_pair hn Q hT hi
    rw [jX2_countAt_L4, if_neg (fun q => by have := (nI_leI (by omega) (by omega)).mp q; omega), chk_n (by omega) (by omega), rd_n (by omega), rd_n (by omega), fp, sq, nI_1, fs, k2, k3]
    by_cases e : p' = b
    · rw [if_pos (by rw [e]), if_pos (Or.inl e)]
    · rw [if_neg (fun z => e ((nI_eq (by omega) (by omega)).mp z)), chk_n (by omega) (by omega)]
      by_cases e2 : q' = b
      · rw [if_pos (by rw [e2]), if_pos (Or.inr e2)]
      · rw [if_neg (fun z => e2 ((nI_eq (by omega) (by omega)).mp z)), if_neg (fun z => z.elim e e2), Int32.add_zero]
theorem deg_ext {T' : Nat → Int32} (hn : n ≤ 24) (e : ∀ q, q < 576 → T' q = T q) {b : Nat} : deg n T' b = deg n T b := by
  unfold deg
  refine ns_congr fun y _ => ?_
  have : tbb n T' b y = tbb n T b y := Bool.eq_iff_iff.mpr (by rw [tb_iff, tb_iff]; exact Tie_ext hn e b y)
  rw [this]
theorem deg_sum (hn : n ≤ 24) {TT UU stt : Nat → Int32} (Q : QOK m f s t u κ TT UU) (hT : TOK n stt TT) : ns (fun b => deg n TT b) n = 2 * m := by
  have e1 : ns (fun b => deg n TT b) n = ns (fun b => ns (fun i => if κ i / 24 = b ∨ κ i % 24 = b then 1 else 0) m) n := ns_congr fun b hb => (deg_eq hn Q.2.1 hT hb).symm
  rw [e1, ns_swap]
  have e2 : ∀ i, i < m → ns (fun b => if κ i / 24 = b ∨ κ i % 24 = b then 1 else 0) n = 2 := fun i hi => by
    obtain ⟨p', q', k1, k2, k3, k4, k5, -⟩ := Q_pair hn Q hT hi
    have : ∀ b, b < n → (if κ i / 24 = b ∨ κ i % 24 = b then 1 else 0) = (if b = p' then 1 else 0) + (if b = q' then 1 else 0) := fun b _ => by
      rw [k2, k3]
      by_cases e : b = p'
      · rw [if_pos (Or.inl e.symm), if_pos e, if_neg (by omega)]
      · by_cases e2 : b = q'
        · rw [if_pos (Or.inr e2.symm), if_neg e, if_pos e2]
        · rw [if_neg (by omega), if_neg e, if_neg e2]
    rw [ns_congr this, ns_add, ns_pick (g := fun _ => 1) (by omega), ns_pick (g := fun _ => 1) k5]
  rw [ns_congr e2]
  have : ∀ c, ns (fun _ => 2) c = 2 * c := fun c => by
    induction c with
    | zero => rfl
    | succ c ih => rw [ns, ih]; omega
  exact this m
theorem b_ties (hn : n ≤ 24) (hT : TOK n (A kB_state) (A kM_strength)) (Q : QOK m f s t u κ (A kM_strength) (A kM_wear)) (hR : RM n k A fx tb T U pp) : ∃ v, jX7_counted_L103 (nI n) T FU 0 0 = some v ∧ v / 2 = nI m := by
  have hm := Q.1
  refine ⟨nI (2 * m), ?_, by rw [l2, pk_div (by omega) (by omega) (by omega)]; congr 1; omega⟩
  rw [← deg_sum hn Q hT]
  have : ∀ c, c ≤ n → fs (fun b => nI (deg n T b)) c = nI (ns (fun b => deg n (A kM_strength) b) c) := fun c => by
    induction c with
    | zero => intro _; rfl
    | succ c ih => intro hc; rw [fs, ns, ih (by omega), nI_add, deg_ext hn hR.2.1]
  rw [← this n (Nat.le_refl _)]
  refine itF0 (fun g s v => jX7_counted_L103 (nI n) T g s v) (fs (fun b => nI (deg n T b))) n (by omega) rfl (fun g => ?_) (fun g j hj => ?_)
  · rw [jX7_counted_L103, if_pos (Int32.le_refl _)]
  · rw [jX7_counted_L103, if_neg (fun q => by have := (nI_leI (by omega) (by omega)).mp q; omega), r_tiesOf hn hj, bnd_n, nI_1]
    rfl
theorem b_pieces (hW : WA n k A) (hP : PN n A p) (hR : RM n k A fx tb T U pp) : ∃ v q, jX0_pieces (nI n) p = some v ∧ jX7_name (nI n) tb T pc = some q ∧ jX7_counted_L135 (nI n) q FU 0 0 = some v := by
  have hn := hW.1
  obtain ⟨q, e, hq⟩ := r_nameA (p0 := pc) hW hR
  refine ⟨_, q, c_pieces hn, e, ?_⟩
  refine itF0 (fun g s v => jX7_counted_L135 (nI n) q g s v) (fs (fun j => if p j = nI j then 1 else 0)) n (by omega) rfl (fun g => ?_) (fun g j hj => ?_)
  · rw [jX7_counted_L135, if_pos (Int32.le_refl _)]
  · rw [jX7_counted_L135, if_neg (fun z => by have := (nI_leI (by omega) (by omega)).mp z; omega), chk_n (by omega) (by omega), rd_n (by omega), nI_1, POK_one hn hq hP j hj]
    by_cases h : p j = nI j
    · simp only [h, if_true, fs]
    · simp only [h, if_false, fs]
theorem b_goods (hn : n ≤ 24) (hC : CR n k A li lk wa go pe st x y se ks) (hR : RM n k A fx tb T U pp) : ∃ v, jX0_goodsSaved (nI n) go st = some v ∧ jX7_counted_L185 (nI n) tb FU 0 0 = some v := by
  refine ⟨_, c_goodsSaved hn, ?_⟩
  refine itF0 (fun g s v => jX7_counted_L185 (nI n) tb g s v) (fs (fun j => if st j = 2 then go j else 0)) n (by omega) rfl (fun g => ?_) (fun g j hj => ?_)
  · rw [jX7_counted_L185, if_pos (Int32.le_refl _)]
  · rw [jX7_counted_L185, if_neg (fun z => by have := (nI_leI (by omega) (by omega)).mp z; omega), r_ba2 (by omega), bnd_n, (hR.1 j hj).2.2.2.2.1, ← (hC.1 j hj).2.2.2.2.2.1, nI_1]
    by_cases h : st j = 2
    · rw [if_pos h, r_ba1 (by omega), bnd_n, (hR.1 j hj).2.2.2.1, ← (hC.1 j hj).2.2.2.1, fs, if_pos h]
    · rw [if_neg h, fs, if_neg h]
/-- count(), one by one -/
theorem b_count (hW : WA n k A) (hC : CR n k A li lk wa go pe st x y se ks) (hP : PN n A p) (Q : QOK m f s t u κ (A kM_strength) (A kM_wear)) (hR : RM n k A fx tb T U pp) {ro ho br : Int32} (h0 : ho = nu 0) (h1 : ro = nu 1) (h2 : br = nu 2) {what : Nat} (hw : what < 12) :
    ∃ v pc', jX6_countFact ro ho br (nI n) go st p (nI k) ks (nI m) (nI what) = some v ∧ jX7_counted (nI n) (nI k) tb T pp nu pc (nI what) = some (v, pc') := by
  have hn := hW.1
  have hk := hW.2.1
  have z0 : rd nu 0 = nu 0 := rfl
  have z1 : rd nu 1 = nu 1 := rfl
  have z2 : rd nu 2 = nu 2 := rfl
  unfold jX6_countFact jX7_counted
  rcases (by omega : what = 0 ∨ what = 1 ∨ what = 2 ∨ what = 3 ∨ what = 4 ∨ what = 5 ∨ what = 6 ∨ what = 7 ∨ what = 8 ∨ what = 9 ∨ what = 10 ∨ what = 11) with rfl | rfl | rfl | rfl | rfl | rfl | rfl | rfl | rfl | rfl | rfl | rfl
  · exact ⟨ho, pc, by rw [if_pos (by decide)], by rw [if_pos (by decide), chk30, z0, h0]⟩
  · exact ⟨nI n, pc, by rw [if_neg (by decide), if_pos (by decide)], by rw [if_neg (by decide), if_pos (by decide)]⟩
  · obtain ⟨v, e1, e2⟩ := b_state (a := 0) hn hC hR
    exact ⟨v, pc, by rw [if_neg (by decide), if_neg (by decide), if_pos (by decide), e1, bnd_n], by rw [if_neg (by decide), if_neg (by decide), if_pos (by decide), e2, bnd_n]⟩
  · obtain ⟨v, e1, e2⟩ := b_state (a := 2) hn hC hR
    exact ⟨v, pc, by rw [if_neg (by decide), if_neg (by decide), if_neg (by decide), if_pos (by decide), e1, bnd_n], by rw [if_neg (by decide), if_neg (by decide), if_neg (by decide), if_pos (by decide), e2, bnd_n]⟩
  · exact ⟨nI k, pc, by rw [if_neg (by decide), if_neg (by decide), if_neg (by decide), if_neg (by decide), if_pos (by decide)], by rw [if_neg (by decide), if_neg (by decide), if_neg (by decide), if_neg (by decide), if_pos (by decide)]⟩
  · obtain ⟨v, e1, e2⟩ := b_crew (a := 0) hk hC hR
    exact ⟨v, pc, by rw [if_neg (by decide), if_neg (by decide), if_neg (by decide), if_neg (by decide), if_neg (by decide), if_pos (by decide), e1, bnd_n], by rw [if_neg (by decide), if_neg (by decide), if_neg (by decide), if_neg (by decide), if_neg (by decide), if_pos (by decide), e2, bnd_n]⟩
  · obtain ⟨v, e1, e2⟩ := b_crew (a := 2) hk hC hR
    exact ⟨v, pc, by rw [if_neg (by decide), if_neg (by decide), if_neg (by decide), if_neg (by decide), if_neg (by decide), if_neg (by decide), if_pos (by decide), e1, bnd_n], by rw [if_neg (by decide), if_neg (by decide), if_neg (by decide), if_neg (by decide), if_neg (by decide), if_neg (by decide), if_pos (by decide), e2, bnd_n]⟩
  · obtain ⟨v, e1, e2⟩ := b_ties hn hW.2.2.2.2.1 Q hR
    exact ⟨nI m, pc, by rw [if_neg (by decide), if_neg (by decide), if_neg (by decide), if_neg (by decide), if_neg (by decide), if_neg (by decide), if_neg (by decide), if_pos (by decide)], by rw [if_neg (by decide), if_neg (by decide), if_neg (by decide), if_neg (by decide), if_neg (by decide), if_neg (by decide), if_neg (by decide), if_pos (by decide), e1, bnd_n, e2]⟩
  · obtain ⟨v, q, e1, e2, e3⟩ := b_pieces (pc := pc) hW hP hR
    exact ⟨v, q, by rw [if_neg (by decide), if_neg (by decide), if_neg (by decide), if_neg (by decide), if_neg (by decide), if_neg (by decide), if_neg (by decide), if_neg (by decide), if_pos (by decide), e1, bnd_n], by rw [if_neg (by decide), if_neg (by decide), if_neg (by decide), if_neg (by decide), if_neg (by decide), if_neg (by decide), if_neg (by decide), if_neg (by decide), if_pos (by decide), e2, bnd_n, e3, bnd_n]⟩
  · exact ⟨ro, pc, by rw [if_neg (by decide), if_neg (by decide), if_neg (by decide), if_neg (by decide), if_neg (by decide), if_neg (by decide), if_neg (by decide), if_neg (by decide), if_neg (by decide), if_pos (by decide)], by rw [if_neg (by decide), if_neg (by decide), if_neg (by decide), if_neg (by decide), if_neg (by decide), if_neg (by decide), if_neg (by decide), if_neg (by decide), if_neg (by decide), if_pos (by decide), chk31, z1, h1]⟩
  · exact ⟨br, pc, by rw [if_neg (by decide), if_neg (by decide), if_neg (by decide), if_neg (by decide), if_neg (by decide), if_neg (by decide), if_neg (by decide), if_neg (by decide), if_neg (by decide), if_neg (by decide), if_pos (by decide)], by rw [if_neg (by decide), if_neg (by decide), if_neg (by decide), if_neg (by decide), if_neg (by decide), if_neg (by decide), if_neg (by decide), if_neg (by decide), if_neg (by decide), if_neg (by decide), if_pos (by decide), chk32, z2, h2]⟩
  · obtain ⟨v, e1, e2⟩ := b_goods hn hC hR
    exact ⟨v, pc, by rw [if_neg (by decide), if_neg (by decide), if_neg (by decide), if_neg (by decide), if_neg (by decide), if_neg (by decide), if_neg (by decide), if_neg (by decide), if_neg (by decide), if_neg (by decide), if_neg (by decide), e1, bnd_n], by rw [if_neg (by decide), if_neg (by decide), if_neg (by decide), if_neg (by decide), if_neg (by decide), if_neg (by decide), if_neg (by decide), if_neg (by decide), if_neg (by decide), if_neg (by decide), if_neg (by decide), e2, bnd_n]⟩
/-- barrel(), one by one -/
theorem b_barrel {co ro : Nat → Int32} (hW : WA n k A) (hC : CR n k A li lk wa go pe st x y se ks) (hP : PN n A p) (Q : QOK m f s t u κ (A kM_strength) (A kM_wear)) (hR : RM n k A fx tb T U pp) {b : Nat} (hb : b < n) (hB : ∃ c d, c < 8 ∧ d < 8 ∧ co b = nI c ∧ ro b = nI d ∧ fx (3 * b + 0) = nI (c + 8 * d)) {what : Nat} (hw : what < 13) :
    ∃ v pc', jX6_barrelFact co ro li lk wa go pe st x y p (nI m) f s (nI b) (nI what) = some v ∧ jX7_barrelTold (nI n) (nI k) fx tb T pp pc (nI b) (nI what) = some (v, pc') := by
  have hn := hW.1
  have hk := hW.2.1
  obtain ⟨c1, c2, c3, c4, c5, c6, c7, c8⟩ := hC.1 b hb
  obtain ⟨r1, r2, r3, r4, r5, r6, r7⟩ := hR.1 b hb
  obtain ⟨c, d, hc, hd, ec, ed, ef⟩ := hB
  have k0 : ∀ {α : Type} {k : Option α}, chk 24 (nI b) k = k := fun {α} {k} => chk_n (by omega) (by omega)
  have rb : ∀ g : Nat → Int32, rd g (nI b) = g b := fun g => rd_n (by omega)
  unfold jX6_barrelFact jX7_barrelTold
  rcases (by omega : what = 0 ∨ what = 1 ∨ what = 2 ∨ what = 3 ∨ what = 4 ∨ what = 5 ∨ what = 6 ∨ what = 7 ∨ what = 8 ∨ what = 9 ∨ what = 10 ∨ what = 11 ∨ what = 12) with rfl | rfl | rfl | rfl | rfl | rfl | rfl | rfl | rfl | rfl | rfl | rfl | rfl
  · refine ⟨nI c, pc, by rw [if_pos (by decide), k0, rb, ec], ?_⟩
    rw [if_pos (by decide), r_fx0 (by omega), bnd_n, ef, l8, pk_rem (by omega) (by omega) (by omega)]
    congr 3; omega
  · refine ⟨nI d, pc, by rw [if_neg (by decide), if_pos (by decide), k0, rb, ed], ?_⟩
    rw [if_neg (by decide), if_pos (by decide), r_fx0 (by omega), bnd_n, ef, l8, pk_div (by omega) (by omega) (by omega)]
    congr 3; omega
  · exact ⟨li b, pc, by rw [if_neg (by decide), if_neg (by decide), if_pos (by decide), k0, rb], by rw [if_neg (by decide), if_neg (by decide), if_pos (by decide), show (nI 2 : Int32) - 1 = 1 by decide, r_fx1 (by omega), bnd_n, r1, c1]⟩
  · exact ⟨lk b, pc, by rw [if_neg (by decide), if_neg (by decide), if_neg (by decide), if_pos (by decide), k0, rb], by rw [if_neg (by decide), if_neg (by decide), if_neg (by decide), if_pos (by decide), show (nI 3 : Int32) - 1 = 2 by decide, r_fx2 (by omega), bnd_n, r2, c2]⟩
  · exact ⟨wa b, pc, by rw [if_neg (by decide), if_neg (by decide), if_neg (by decide), if_neg (by decide), if_pos (by decide), k0, rb], by rw [if_neg (by decide), if_neg (by decide), if_neg (by decide), if_neg (by decide), if_pos (by decide), show (nI 4 : Int32) - 4 = 0 by decide, r_ba0 (by omega), bnd_n, r3, c3]⟩
  · exact ⟨go b, pc, by rw [if_neg (by decide), if_neg (by decide), if_neg (by decide), if_neg (by decide), if_neg (by decide), if_pos (by decide), k0, rb], by rw [if_neg (by decide), if_neg (by decide), if_neg (by decide), if_neg (by decide), if_neg (by decide), if_pos (by decide), show (nI 5 : Int32) - 4 = 1 by decide, r_ba1 (by omega), bnd_n, r4, c4]⟩
  · exact ⟨st b, pc, by rw [if_neg (by decide), if_neg (by decide), if_neg (by decide), if_neg (by decide), if_neg (by decide), if_neg (by decide), if_pos (by decide), k0, rb], by rw [if_neg (by decide), if_neg (by decide), if_neg (by decide), if_neg (by decide), if_neg (by decide), if_neg (by decide), if_pos (by decide), show (nI 6 : Int32) - 4 = 2 by decide, r_ba2 (by omega), bnd_n, r5, c6]⟩
  · obtain ⟨q, e, hq⟩ := r_nameA (p0 := pc) hW hR
    exact ⟨p b, q, by rw [if_neg (by decide), if_neg (by decide), if_neg (by decide), if_neg (by decide), if_neg (by decide), if_neg (by decide), if_neg (by decide), if_pos (by decide), k0, rb], by rw [if_neg (by decide), if_neg (by decide), if_neg (by decide), if_neg (by decide), if_neg (by decide), if_neg (by decide), if_neg (by decide), if_pos (by decide), e, bnd_n, k0, rb, POK_one hn hq hP b hb]⟩
  · exact ⟨x b, pc, by rw [if_neg (by decide), if_neg (by decide), if_neg (by decide), if_neg (by decide), if_neg (by decide), if_neg (by decide), if_neg (by decide), if_neg (by decide), if_pos (by decide), k0, rb], by rw [if_neg (by decide), if_neg (by decide), if_neg (by decide), if_neg (by decide), if_neg (by decide), if_neg (by decide), if_neg (by decide), if_neg (by decide), if_pos (by decide), show (nI 8 : Int32) - 5 = 3 by decide, r_ba3 (by omega), bnd_n, r6, c7]⟩
  · exact ⟨y b, pc, by rw [if_neg (by decide), if_neg (by decide), if_neg (by decide), if_neg (by decide), if_neg (by decide), if_neg (by decide), if_neg (by decide), if_neg (by decide), if_neg (by decide), if_pos (by decide), k0, rb], by rw [if_neg (by decide), if_neg (by decide), if_neg (by decide), if_neg (by decide), if_neg (by decide), if_neg (by decide), if_neg (by decide), if_neg (by decide), if_neg (by decide), if_pos (by decide), show (nI 9 : Int32) - 5 = 4 by decide, r_ba4 (by omega), bnd_n, r7, c8]⟩
  · exact ⟨nI (deg n (A kM_strength) b), pc, by rw [if_neg (by decide), if_neg (by decide), if_neg (by decide), if_neg (by decide), if_neg (by decide), if_neg (by decide), if_neg (by decide), if_neg (by decide), if_neg (by decide), if_neg (by decide), if_pos (by decide), c_countAt hn Q hW.2.2.2.2.1 hb, bnd_n], by rw [if_neg (by decide), if_neg (by decide), if_neg (by decide), if_neg (by decide), if_neg (by decide), if_neg (by decide), if_neg (by decide), if_neg (by decide), if_neg (by decide), if_neg (by decide), if_pos (by decide), r_tiesOf hn hb, bnd_n, deg_ext hn hR.2.1]⟩
  · exact ⟨lf A b, pc, by rw [if_neg (by decide), if_neg (by decide), if_neg (by decide), if_neg (by decide), if_neg (by decide), if_neg (by decide), if_neg (by decide), if_neg (by decide), if_neg (by decide), if_neg (by decide), if_neg (by decide), if_pos (by decide), cr_lift hC hn hb, bnd_n], by rw [if_neg (by decide), if_neg (by decide), if_neg (by decide), if_neg (by decide), if_neg (by decide), if_neg (by decide), if_neg (by decide), if_neg (by decide), if_neg (by decide), if_neg (by decide), if_neg (by decide), if_pos (by decide), r_lifts hR hn hb, bnd_n]⟩
  · exact ⟨ld A b, pc, by rw [if_neg (by decide), if_neg (by decide), if_neg (by decide), if_neg (by decide), if_neg (by decide), if_neg (by decide), if_neg (by decide), if_neg (by decide), if_neg (by decide), if_neg (by decide), if_neg (by decide), if_neg (by decide), cr_load hC hn hb, bnd_n], by rw [if_neg (by decide), if_neg (by decide), if_neg (by decide), if_neg (by decide), if_neg (by decide), if_neg (by decide), if_neg (by decide), if_neg (by decide), if_neg (by decide), if_neg (by decide), if_neg (by decide), if_neg (by decide), r_loadOf hR hn hk hb (hW.2.2.1 b hb).2.2.2, bnd_n]⟩
end Facts
