/-! the law's hour: what is asked ahead of it -/
theorem ex_jn {σ α β : Type} {I : σ → Prop} {f : σ → Option β} {F : α → Option β} {B : (α → Option β) → Option β} {x : α} (h : ∀ kk : α → Option β, B kk = kk x) (g : ∃ s, I s ∧ F x = f s) : ∃ s, I s ∧ jn F B = f s := g.imp fun s hs => ⟨hs.1, (jn_to h).trans hs.2⟩
section Body
variable {S S1 : Nat → Nat → Int32} {n k w m r : Nat} {κ : Nat → Nat}
theorem y_was (hB : RelB S n k w m r κ) (e : EK S S1) {a : Nat} (ha : a < n) (g : Nat → Nat → Int32) : ∃ r, jL_law_L102 a 13 0 S1 g = some r ∧ (EK S r.1 ∧ (∀ what, what < 13 → r.2 a what = bv n S a what) ∧ ∀ i, i ≠ a → r.2 i = g i) := by
  refine itN0 (s0 := (S1, g)) (fun f j (s : (Nat → Nat → Int32) × (Nat → Nat → Int32)) => jL_law_L102 a f j s.1 s.2) 13 (fun j s => EK S s.1 ∧ (∀ what, what < j → s.2 a what = bv n S a what) ∧ ∀ i, i ≠ a → s.2 i = g i) _ ⟨e, fun _ h => absurd h (Nat.not_lt_zero _), fun _ _ => rfl⟩ (fun s hs => ⟨s, rfl, hs⟩) (fun f j s hj hs => ?_)
  obtain ⟨Sx, gx⟩ := s
  obtain ⟨h1, h2, h3⟩ := hs
  dsimp only at h1 h2 h3 ⊢
  obtain ⟨S2, e2, e3⟩ := lq_barrel hB h1 ha hj
  refine ⟨(S2, uF gx a (wr (gx a) (nI j) (bv n S a j))), ⟨e3, fun what hw => ?_, fun i hi => ?_⟩, by rw [jL_law_L102, e2, bnd_n]⟩
  · dsimp only
    rw [uF_a, wr_n (by omega)]
    by_cases q : what = j
    · rw [q, upd_a]
    · rw [upd_b q]; exact h2 what (by omega)
  · dsimp only
    rw [uF_b hi]; exact h3 i hi
theorem y_wasA (hB : RelB S n k w m r κ) (e : EK S S1) (g : Nat → Nat → Int32) : ∃ r, jL_law_L93 n 0 S1 g = some r ∧ (EK S r.1 ∧ ∀ i, i < n → ∀ what, what < 13 → r.2 i what = bv n S i what) := by
  refine itN0 (s0 := (S1, g)) (fun f j (s : (Nat → Nat → Int32) × (Nat → Nat → Int32)) => jL_law_L93 f j s.1 s.2) n (fun j s => EK S s.1 ∧ ∀ i, i < j → ∀ what, what < 13 → s.2 i what = bv n S i what) _ ⟨e, fun _ h => absurd h (Nat.not_lt_zero _)⟩ (fun s hs => ⟨s, rfl, hs⟩) (fun f j s hj hs => ?_)
  obtain ⟨Sx, gx⟩ := s
  obtain ⟨h1, h2⟩ := hs
  dsimp only at h1 h2 ⊢
  obtain ⟨q, q1, q2, q3, q4⟩ := y_was hB h1 hj gx
  refine ⟨q, ⟨q2, fun i hi what hw => ?_⟩, by rw [jL_law_L93, chkP_n (by decide), q1, bnd_n]⟩
  by_cases z : i = j
  · rw [z]; exact q3 what hw
  · rw [q4 i z]; exact h2 i (by omega) what hw
theorem T_self (hW : WA n k S) {a : Nat} (ha : a < n) : ¬ 0 < S 69 (pr a a) := fun z => by
  have hn := hW.1
  obtain ⟨c, d, e, hcd, hd, -⟩ := hW.2.2.2.2.1 _ (pr_lt (a := a) (b := a) (by omega) (by omega)) (i_pos_ne z)
  unfold pr at e
  omega
/-- firmness and hold, asked of two barrels -/
theorem y_firm {τ : Type} (hB : RelB S n k w m r κ) (hX : XI n k S) (e : EK S S1) {a b : Nat} (ha : a < n) (hb : b < n) (K : (Nat → Nat → Int32) → Option τ) {wa wb : Nat → Int32} {st we : Int32} (h1 : rd wa 7 = S 22 a) (h2 : rd wb 7 = S 22 b) (h3 : st = lv w S a b 0) (h4 : we = lv w S a b 1) :
    ∃ S2, EK S S2 ∧ bnd (op_firm S1 (nI a) (nI b)) (fun r_60 => bnd (op_firm r_60.2 (nI b) (nI a)) (fun r_65 => (if r_60.1 = r_65.1 then jn (fun (x325 : Int32 × (Nat → Nat → Int32)) => jn (fun (x367 : Int32) => (if x325.1 = x367 then bnd (op_hold x325.2 (nI a) (nI b)) (fun r_78 => bnd (op_hold r_78.2 (nI b) (nI a)) (fun r_83 => (if r_78.1 = r_83.1 then bnd (op_hold r_83.2 (nI a) (nI b)) (fun r_88 => jn (fun (x412 : (Nat → Nat → Int32)) => (if st ≤ 0 then K x412 else bnd (op_hold x412 (nI a) (nI b)) (fun r_99 => (if st - we ≤ r_99.1 then K r_99.2 else none)))) (fun k412 => (if r_88.1 ≤ 0 then k412 r_88.2 else bnd (op_firm r_88.2 (nI a) (nI b)) (fun r_93 => (if r_93.1 < 1 then none else k412 r_93.2))))) else none))) else none)) (fun k367 => jn (fun (x366 : Unit) => k367 0) (fun k366 => (if rd wa 7 < 0 then k366 () else (if nI a = nI b then k366 () else (if rd wa 7 = rd wb 7 then k367 1 else k366 ())))))) (fun k325 => jn (fun (x324 : (Nat → Nat → Int32)) => k325 (0, x324)) (fun k324 => (if nI a = nI b then k324 r_65.2 else bnd (op_firm r_65.2 (nI a) (nI b)) (fun r_70 => (if r_70.1 ≤ 0 then k324 r_70.2 else k325 (1, r_70.2)))))) else none))) = K S2 := by
  have hW : WA n k S := hB.2.2.2.1
  have hn := hW.1
  have hP : PN n S (S 22) := hB.2.2.2.2.2.2.1
  by_cases hab : a = b
  · subst hab
    have st0 : st = 0 := h3.trans (if_neg (T_self hW ha))
    obtain ⟨S2, f1, g1⟩ := lq_firm0 hB e ha
    rw [f1, bnd_n]
    dsimp only
    obtain ⟨S3, f2, g2⟩ := lq_firm0 hB g1 ha
    rw [f2, bnd_n]
    dsimp only
    rw [if_pos rfl]
    refine ex_jn (x := (0, S3)) (fun kk => by rw [jn_n, if_pos rfl]) ?_
    dsimp only
    refine ex_jn (x := 0) (fun kk => by
      rw [jn_n]
      by_cases z : rd wa 7 < 0
      · rw [if_pos z]
      · rw [if_neg z, if_pos rfl]) ?_
    try dsimp only
    rw [if_pos rfl]
    obtain ⟨S4, f3, g3⟩ := lq_hold0 hB g2 ha
    rw [f3, bnd_n]
    dsimp only
    obtain ⟨S5, f4, g4⟩ := lq_hold0 hB g3 ha
    rw [f4, bnd_n]
    dsimp only
    rw [if_pos rfl]
    obtain ⟨S6, f5, g5⟩ := lq_hold0 hB g4 ha
    rw [f5, bnd_n]
    dsimp only
    rw [jn_n, if_pos (Int32.le_refl _)]
    dsimp only
    have sle : st ≤ 0 := by rw [st0]; exact Int32.le_refl _
    rw [if_pos sle]
    exact ⟨S6, g5, rfl⟩
  · have hne : ¬ nI a = nI b := fun z => hab ((nI_eq (by omega) (by omega)).mp z)
    obtain ⟨v1, S2, f1, g1, l1, m1⟩ := lq_firm hB e ha hb hab
    rw [f1, bnd_n]
    dsimp only
    obtain ⟨v2, S3, f2, g2, l2, m2⟩ := lq_firm hB g1 hb ha (fun z => hab z.symm)
    have e12 : v2 = v1 := by
      have := MF_one (MF_symm m2) m1
      omega
    rw [f2, bnd_n, e12]
    dsimp only
    rw [if_pos rfl]
    obtain ⟨v3, S4, f3, g3, l3, m3⟩ := lq_firm hB g2 ha hb hab
    have hc : 1 ≤ v3 ↔ (0 ≤ S 22 a ∧ S 22 a = S 22 b) := by
      rw [← conn_piece hn hW.2.2.2.2.1 hP ha hb hab, ← MF_conn hn m3]
      omega
    have hcc : ∃ f : Int32, ∀ (kk : Int32 × (Nat → Nat → Int32) → Option τ), jn (fun (x324 : (Nat → Nat → Int32)) => kk (0, x324)) (fun k324 => (if nI a = nI b then k324 S3 else bnd (op_firm S3 (nI a) (nI b)) (fun r_70 => (if r_70.1 ≤ 0 then k324 r_70.2 else kk (1, r_70.2))))) = kk (f, S4) ∧ ∀ (k367 : Int32 → Option τ), jn (fun (x366 : Unit) => k367 0) (fun k366 => (if rd wa 7 < 0 then k366 () else (if nI a = nI b then k366 () else (if rd wa 7 = rd wb 7 then k367 1 else k366 ())))) = k367 f := by
      by_cases z : 1 ≤ v3
      · obtain ⟨y1, y2⟩ := hc.mp z
        refine ⟨1, fun kk => ⟨?_, fun k367 => ?_⟩⟩
        · rw [jn_n, if_neg hne, f3, bnd_n]
          dsimp only
          rw [if_neg (show ¬ nI v3 ≤ 0 from fun y => by have := (nI_leI (b := 0) (by omega) (by omega)).mp y; omega)]
        · rw [jn_n, h1, h2, if_neg (Int32.not_lt.mpr y1), if_neg hne, if_pos y2]
      · refine ⟨0, fun kk => ⟨?_, fun k367 => ?_⟩⟩
        · rw [jn_n, if_neg hne, f3, bnd_n]
          dsimp only
          rw [if_pos (show nI v3 ≤ 0 from (nI_leI (b := 0) (by omega) (by omega)).mpr (by omega))]
        · rw [jn_n, h1, h2]
          by_cases y1 : S 22 a < 0
          · rw [if_pos y1]
          · rw [if_neg y1, if_neg hne, if_neg (fun y2 => z (hc.mpr ⟨Int32.not_lt.mp y1, y2⟩))]
    obtain ⟨f, hf⟩ := hcc
    refine ex_jn (x := (f, S4)) (fun kk => (hf kk).1) ?_
    dsimp only
    refine ex_jn (x := f) (fun kk => (hf (fun _ => none)).2 kk) ?_
    try dsimp only
    rw [if_pos rfl]
    obtain ⟨u1, S5, f5, g5, m5⟩ := lq_hold hB g3 ha hb hab
    rw [f5, bnd_n]
    dsimp only
    obtain ⟨u2, S6, f6, g6, m6⟩ := lq_hold hB g5 hb ha (fun z => hab z.symm)
    rw [f6, bnd_n, HO_one (HO_symm m6) m5]
    dsimp only
    rw [if_pos rfl]
    obtain ⟨u3, S7, f7, g7, m7⟩ := lq_hold hB g6 ha hb hab
    rw [f7, bnd_n]
    dsimp only
    have b7 := m7.1
    have hk : ∃ S8, EK S S8 ∧ ∀ (kk : (Nat → Nat → Int32) → Option τ), (if nI u3 ≤ 0 then kk S7 else bnd (op_firm S7 (nI a) (nI b)) (fun r_93 => (if r_93.1 < 1 then none else kk r_93.2))) = kk S8 := by
      by_cases z : nI u3 ≤ 0
      · exact ⟨S7, g7, fun kk => if_pos z⟩
      · obtain ⟨v8, S8, f8, g8, l8, m8⟩ := lq_firm hB g7 ha hb hab
        have z1 : 1 ≤ u3 := by
          rcases Nat.eq_zero_or_pos u3 with y | y
          · rw [y] at z
            exact absurd (Int32.le_refl _) z
          · exact y
        have z2 := (MF_conn hn m8).mpr (HO_conn m7 z1)
        refine ⟨S8, g8, fun kk => ?_⟩
        rw [if_neg z, f8, bnd_n]
        dsimp only
        rw [if_neg (show ¬ nI v8 < 1 from fun y => by have := (nI_ltI (b := 1) (by omega) (by omega)).mp y; omega)]
    obtain ⟨S8, g8, hk⟩ := hk
    rw [jn_to hk]
    by_cases z : st ≤ 0
    · rw [if_pos z]
      exact ⟨S8, g8, rfl⟩
    · obtain ⟨u9, S9, f9, g9, m9⟩ := lq_hold hB g8 ha hb hab
      have b9 := m9.1
      rw [if_neg z, f9, bnd_n]
      dsimp only
      have h0 : 0 < S 69 (pr a b) := Classical.byContradiction fun no => z (by
        rw [h3]
        show (if 0 < S 69 (pr a b) then S 69 (pr a b) else 0) ≤ 0
        rw [if_neg no]
        exact Int32.le_refl _)
      have e3 : st = S 69 (pr a b) := h3.trans (if_pos h0)
      have e4 : we = S 70 (pr a b) := h4.trans (if_pos h0)
      obtain ⟨d, hd, ed⟩ := hX.1 (pr a b) (pr_lt (by omega) (by omega)) h0
      have := HO_ge hn m9 ⟨ha, hb, hab, h0⟩ hd ed
      rw [e3, e4, ed, if_pos ((nI_leI (by omega) (by omega)).mpr this)]
      exact ⟨S9, g9, rfl⟩
theorem le_of_sub {t u : Int32} (h0 : 0 < t) (h : 0 ≤ t - u) : u ≤ t := by
  rw [Int32.lt_iff_toInt_lt] at h0
  rw [Int32.le_iff_toInt_le] at h ⊢
  rw [Int32.toInt_sub] at h
  have b1 := Int32.toInt_lt t
  have b2 := Int32.le_toInt u
  have b3 := Int32.toInt_lt u
  have z : (0 : Int32).toInt = 0 := rfl
  rw [z] at h0 h
  rw [Int.bmod_def] at h
  split at h <;> omega
/-- strength, wear and stress, asked of a barrel and all -/
theorem y_row (hB : RelB S n k w m r κ) (hX : XI n k S) (e : EK S S1) {t a : Nat} (ha : a < n) (wa g1 g2 g3 : Nat → Nat → Int32) (hw : ∀ i, i < n → ∀ what, what < 13 → wa i what = bv n S i what) :
    ∃ r, jL_law_L173 n t a wa n 0 S1 g1 g2 g3 = some r ∧ (EK S r.1 ∧ (∀ i, i < n → r.2.1 a i = lv w S a i 1 ∧ r.2.2.1 a i = lv w S a i 0 ∧ r.2.2.2 a i = lv w S a i 2) ∧ ∀ i, i ≠ a → r.2.1 i = g1 i ∧ r.2.2.1 i = g2 i ∧ r.2.2.2 i = g3 i) := by
  have hW : WA n k S := hB.2.2.2.1
  have hn := hW.1
  refine itN0 (s0 := (S1, g1, g2, g3)) (fun f j (s : (Nat → Nat → Int32) × (Nat → Nat → Int32) × (Nat → Nat → Int32) × (Nat → Nat → Int32)) => jL_law_L173 n t a wa f j s.1 s.2.1 s.2.2.1 s.2.2.2) n (fun j s => EK S s.1 ∧ (∀ i, i < j → s.2.1 a i = lv w S a i 1 ∧ s.2.2.1 a i = lv w S a i 0 ∧ s.2.2.2 a i = lv w S a i 2) ∧ ∀ i, i ≠ a → s.2.1 i = g1 i ∧ s.2.2.1 i = g2 i ∧ s.2.2.2 i = g3 i) _ ⟨e, fun _ h => absurd h (Nat.not_lt_zero _), fun _ _ => ⟨rfl, rfl, rfl⟩⟩ (fun s hs => ⟨s, rfl, hs⟩) (fun f b s hb hs => ?_)
  obtain ⟨Sx, x1, x2, x3⟩ := s
  obtain ⟨h1, h2, h3⟩ := hs
  dsimp only at h1 h2 h3 ⊢
  obtain ⟨T1, p1, q1⟩ : ∃ S2, op_lashing Sx (nI a) (nI b) 0 = some (lv w S a b 0, S2) ∧ EK S S2 := lq_lashing hB h1 ha hb (what := 0) (by omega)
  obtain ⟨T2, p2, q2⟩ : ∃ S2, op_lashing T1 (nI a) (nI b) 1 = some (lv w S a b 1, S2) ∧ EK S S2 := lq_lashing hB q1 ha hb (what := 1) (by omega)
  obtain ⟨T3, p3, q3⟩ : ∃ S2, op_lashing T2 (nI a) (nI b) 2 = some (lv w S a b 2, S2) ∧ EK S S2 := lq_lashing hB q2 ha hb (what := 2) (by omega)
  obtain ⟨T4, p4, q4⟩ : ∃ S2, op_lashing T3 (nI b) (nI a) 0 = some (lv w S b a 0, S2) ∧ EK S S2 := lq_lashing hB q3 hb ha (what := 0) (by omega)
  have sym : lv w S b a 0 = lv w S a b 0 := by
    show (if 0 < S 69 (pr b a) then S 69 (pr b a) else 0) = (if 0 < S 69 (pr a b) then S 69 (pr a b) else 0)
    rw [pr_comm]
  have wle : lv w S a b 1 ≤ lv w S a b 0 := by
    show (if 0 < S 69 (pr a b) then S 70 (pr a b) else 0) ≤ (if 0 < S 69 (pr a b) then S 69 (pr a b) else 0)
    by_cases h0 : 0 < S 69 (pr a b)
    · rw [if_pos h0, if_pos h0]
      exact le_of_sub h0 (hW.2.2.2.2.2.2 _ (pr_lt (by omega) (by omega)) h0)
    · rw [if_neg h0, if_neg h0]
      exact Int32.le_refl _
  have rx : ∀ (x : Nat → Nat → Int32) (v : Int32), rd (uF x a (wr (x a) (nI b) v) a) (nI b) = v := fun x v => by
    rw [uF_a, rd_n (by omega), wr_n (by omega), upd_a]
  rw [jL_law_L173, p1, bnd_n]
  dsimp only
  rw [p2, bnd_n]
  dsimp only
  rw [p3, bnd_n]
  dsimp only
  rw [p4, bnd_n]
  dsimp only
  rw [rx, rx, sym, if_pos rfl, if_pos wle, chkP_n (show ¬ nI n = 0 from fun z => by have := (nI_eq (b := 0) (by omega) (by omega)).mp z; omega)]
  have done : ∀ S2, EK S S2 → ∃ s' : (Nat → Nat → Int32) × (Nat → Nat → Int32) × (Nat → Nat → Int32) × (Nat → Nat → Int32), (EK S s'.1 ∧ (∀ i, i < b + 1 → s'.2.1 a i = lv w S a i 1 ∧ s'.2.2.1 a i = lv w S a i 0 ∧ s'.2.2.2 a i = lv w S a i 2) ∧ ∀ i, i ≠ a → s'.2.1 i = g1 i ∧ s'.2.2.1 i = g2 i ∧ s'.2.2.2 i = g3 i) ∧ jL_law_L173 n t a wa f (b + 1) S2 (uF x1 a (wr (x1 a) (nI b) (lv w S a b 1))) (uF x2 a (wr (x2 a) (nI b) (lv w S a b 0))) (uF x3 a (wr (x3 a) (nI b) (lv w S a b 2))) = jL_law_L173 n t a wa f (b + 1) s'.1 s'.2.1 s'.2.2.1 s'.2.2.2 := fun S2 hS2 => by
    refine ⟨(S2, uF x1 a (wr (x1 a) (nI b) (lv w S a b 1)), uF x2 a (wr (x2 a) (nI b) (lv w S a b 0)), uF x3 a (wr (x3 a) (nI b) (lv w S a b 2))), ⟨hS2, fun i hi => ?_, fun i hi => ?_⟩, rfl⟩
    · dsimp only
      rw [uF_a, uF_a, uF_a, wr_n (by omega), wr_n (by omega), wr_n (by omega)]
      by_cases z : i = b
      · rw [z, upd_a, upd_a, upd_a]
        exact ⟨rfl, rfl, rfl⟩
      · rw [upd_b z, upd_b z, upd_b z]
        exact h2 i (by omega)
    · dsimp only
      rw [uF_b hi, uF_b hi, uF_b hi]
      exact h3 i hi
  by_cases c : nI a = nI t - nI t / nI n * nI n
  · rw [if_pos c]
    obtain ⟨S2, g, eq⟩ := y_firm (wa := wa a) (wb := wa b) (st := lv w S a b 0) (we := lv w S a b 1) hB hX q4 ha hb (fun X => jL_law_L173 n t a wa f (b + 1) X (uF x1 a (wr (x1 a) (nI b) (lv w S a b 1))) (uF x2 a (wr (x2 a) (nI b) (lv w S a b 0))) (uF x3 a (wr (x3 a) (nI b) (lv w S a b 2)))) (by rw [rd7]; exact hw a ha 7 (by omega)) (by rw [rd7]; exact hw b hb 7 (by omega)) rfl rfl
    obtain ⟨s', i1, i2⟩ := done S2 g
    refine ⟨s', i1, ?_⟩
    rw [← i2]
    exact eq
  · rw [if_neg c]
    exact done T4 q4
theorem y_rows (hB : RelB S n k w m r κ) (hn12 : n ≤ 12) (hX : XI n k S) (e : EK S S1) {t : Nat} (wa g1 g2 g3 : Nat → Nat → Int32) (hw : ∀ i, i < n → ∀ what, what < 13 → wa i what = bv n S i what) :
    ∃ r, jL_law_L164 n t wa n 0 S1 g1 g2 g3 = some r ∧ (EK S r.1 ∧ ∀ a, a < n → ∀ i, i < n → r.2.1 a i = lv w S a i 1 ∧ r.2.2.1 a i = lv w S a i 0 ∧ r.2.2.2 a i = lv w S a i 2) := by
  refine itN0 (s0 := (S1, g1, g2, g3)) (fun f j (s : (Nat → Nat → Int32) × (Nat → Nat → Int32) × (Nat → Nat → Int32) × (Nat → Nat → Int32)) => jL_law_L164 n t wa f j s.1 s.2.1 s.2.2.1 s.2.2.2) n (fun j s => EK S s.1 ∧ ∀ a, a < j → ∀ i, i < n → s.2.1 a i = lv w S a i 1 ∧ s.2.2.1 a i = lv w S a i 0 ∧ s.2.2.2 a i = lv w S a i 2) _ ⟨e, fun _ h => absurd h (Nat.not_lt_zero _)⟩ (fun s hs => ⟨s, rfl, hs⟩) (fun f j s hj hs => ?_)
  obtain ⟨Sx, x1, x2, x3⟩ := s
  obtain ⟨h1, h2⟩ := hs
  dsimp only at h1 h2 ⊢
  obtain ⟨q, q1, q2, q3, q4⟩ := y_row (t := t) hB hX h1 hj wa x1 x2 x3 hw
  refine ⟨q, ⟨q2, fun a ha i hi => ?_⟩, by rw [jL_law_L164, chkP_n hn12, q1, bnd_n]⟩
  by_cases z : a = j
  · rw [z]; exact q3 i hi
  · obtain ⟨z1, z2, z3⟩ := q4 a z
    rw [z1, z2, z3]
    exact h2 a (by omega) i hi
theorem y_crew (hB : RelB S n k w m r κ) (e : EK S S1) (g : Nat → Int32) : ∃ r, jL_law_L498 k 0 S1 g = some r ∧ (EK S r.1 ∧ ∀ c, c < k → r.2 c = S 25 c) := by
  have hk := hB.2.2.2.1.2.1
  refine itN0 (s0 := (S1, g)) (fun f j (s : (Nat → Nat → Int32) × (Nat → Int32)) => jL_law_L498 f j s.1 s.2) k (fun j s => EK S s.1 ∧ ∀ c, c < j → s.2 c = S 25 c) _ ⟨e, fun _ h => absurd h (Nat.not_lt_zero _)⟩ (fun s hs => ⟨s, rfl, hs⟩) (fun f j s hj hs => ?_)
  obtain ⟨Sx, gx⟩ := s
  obtain ⟨h1, h2⟩ := hs
  dsimp only at h1 h2 ⊢
  obtain ⟨S2, e2, e3⟩ := lq_kstate hB h1 hj
  refine ⟨(S2, upd gx j (S 25 j)), ⟨e3, fun c hc => ?_⟩, by rw [jL_law_L498, e2, bnd_n, wr_n (by omega)]⟩
  dsimp only
  by_cases q : c = j
  · rw [q, upd_a]
  · rw [upd_b q]; exact h2 c (by omega)
end Body
