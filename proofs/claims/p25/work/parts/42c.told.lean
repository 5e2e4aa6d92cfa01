/-! what the class answers when it is asked -/
section Ask
variable {S S1 : Nat → Nat → Int32} {n k w m r : Nat} {κ : Nat → Nat}
theorem RB_rel (h : RelB S n k w m r κ) : Rel S := ⟨n, k, w, m, r, κ, h⟩
/-- of what holds the numbers are known -/
theorem RB_fix (h : Rel S) (hn : S 23 0 = nI n) (n24 : n ≤ 24) (hk : S 26 0 = nI k) (k8 : k ≤ 8) (hw : S 5 0 = nI w) (w8 : w ≤ 8) : ∃ m r κ, RelB S n k w m r κ := by
  obtain ⟨n', k', w', m', r', κ', hB⟩ := h
  have hW := hB.2.2.2.1
  have hS := hB.2.2.2.2.2.1
  have h1 := hB.1
  have b1 : n' ≤ 24 := hW.1
  have b2 : k' ≤ 8 := hW.2.1
  have b3 : w' ≤ 8 := hS.1.1
  have e1 : n' = n := (nI_eq (by omega) (by omega)).mp ((show S 23 0 = nI n' from h1.1).symm.trans hn)
  have e2 : k' = k := (nI_eq (by omega) (by omega)).mp ((show S 26 0 = nI k' from h1.2.2.1).symm.trans hk)
  have e3 : w' = w := (nI_eq (by omega) (by omega)).mp ((show S 5 0 = nI w' from h1.2.2.2.2.1).symm.trans hw)
  rw [e1, e2, e3] at hB
  exact ⟨m', r', κ', hB⟩
/-- two lists that read alike are of the same lashings -/
theorem QOK_one {n : Nat} {st st' T U T' U' f s t u : Nat → Int32} {κ κ' : Nat → Nat} {m m' : Nat} (Q : QOK m f s t u κ T U) (Q' : QOK m' f s t u κ' T' U') (hm : nI m = nI m') (hT : TOK n st T) (hT' : TOK n st' T') :
    m = m' ∧ (∀ q, q < 576 → T' q = T q) ∧ ∀ q, q < 576 → 0 < T q → U' q = U q := by
  have hm1 := Q.1
  have hm2 := Q'.1
  obtain rfl : m = m' := (nI_eq (by omega) (by omega)).mp hm
  have hk : ∀ i, i < m → κ' i = κ i := fun i hi => by
    obtain ⟨a1, a2, -, -⟩ := Q.2.2 i hi
    obtain ⟨b1, b2, -, -⟩ := Q'.2.2 i hi
    have l1 := (Q.2.1.1 i hi).1
    have l2 := (Q'.2.1.1 i hi).1
    have c1 := (nI_eq (by omega) (by omega)).mp (b1.symm.trans a1)
    have c2 := (nI_eq (by omega) (by omega)).mp (b2.symm.trans a2)
    omega
  have h1 : ∀ q, q < 576 → 0 < T q → T' q = T q ∧ U' q = U q := fun q hq h0 => by
    obtain ⟨i, hi, e⟩ := Q.2.1.2.2 q hq (decide_eq_true h0)
    obtain ⟨-, -, a3, a4⟩ := Q.2.2 i hi
    obtain ⟨-, -, b3, b4⟩ := Q'.2.2 i hi
    rw [hk i hi, e] at b3 b4
    rw [e] at a3 a4
    exact ⟨b3.symm.trans a3, b4.symm.trans a4⟩
  refine ⟨rfl, fun q hq => ?_, fun q hq h0 => (h1 q hq h0).2⟩
  by_cases h0 : 0 < T q
  · exact (h1 q hq h0).1
  · have z : T q = 0 := Classical.byContradiction fun no => by
      obtain ⟨a, b, -, -, -, -, -, h⟩ := hT q hq no
      exact h0 h
    have z' : T' q = 0 := Classical.byContradiction fun no => by
      obtain ⟨a, b, -, -, -, -, -, h⟩ := hT' q hq no
      obtain ⟨i, hi, e⟩ := Q'.2.1.2.2 q hq (decide_eq_true h)
      have := of_decide_eq_true (Q.2.1.1 i hi).2
      rw [← hk i hi, e] at this
      exact h0 this
    rw [z, z']
theorem c_below {c j : Nat} (h : j < c) (hc : c < 600) : jX6_isBelow (nI j) (nI c) = some 1 := by
  unfold jX6_isBelow
  rw [if_neg (n_neg (by omega)), if_neg (fun q => by have := (nI_leI (by omega) (by omega)).mp q; omega), chkZ_b]
/-- what barrel() tells -/
def bv (n : Nat) (S : Nat → Nat → Int32) (b : Nat) : Nat → Int32
  | 0 => S 12 b
  | 1 => S 13 b
  | 2 => S 14 b
  | 3 => S 15 b
  | 4 => S 16 b
  | 5 => S 17 b
  | 6 => S 19 b
  | 7 => S 22 b
  | 8 => S 20 b
  | 9 => S 21 b
  | 10 => nI (deg n (S 69) b)
  | 11 => lf S b
  | _ => ld S b
theorem bv_ek (e : EK S S1) : bv n S1 = bv n S := by
  funext b what
  unfold bv lf ld
  rw [e 12 rfl, e 13 rfl, e 14 rfl, e 15 rfl, e 16 rfl, e 17 rfl, e 18 rfl, e 19 rfl, e 20 rfl, e 21 rfl, e 22 rfl, e 69 rfl]
theorem cf_barrel (hB : RelB S n k w m r κ) {b what : Nat} (hb : b < n) (hw : what < 13) : jX6_barrelFact (S 12) (S 13) (S 14) (S 15) (S 16) (S 17) (S 18) (S 19) (S 20) (S 21) (S 22) (nI m) (S 27) (S 28) (nI b) (nI what) = some (bv n S b what) := by
  have hC := RB_CR hB
  obtain ⟨-, -, -, hW, -, -, -, hQ, -⟩ := hB
  have hn := hW.1
  have k0 : ∀ {α : Type} {k : Option α}, chk 24 (nI b) k = k := fun {α} {k} => chk_n (by omega) (by omega)
  have rb : ∀ g : Nat → Int32, rd g (nI b) = g b := fun g => rd_n (by omega)
  unfold jX6_barrelFact
  rcases (by omega : what = 0 ∨ what = 1 ∨ what = 2 ∨ what = 3 ∨ what = 4 ∨ what = 5 ∨ what = 6 ∨ what = 7 ∨ what = 8 ∨ what = 9 ∨ what = 10 ∨ what = 11 ∨ what = 12) with rfl | rfl | rfl | rfl | rfl | rfl | rfl | rfl | rfl | rfl | rfl | rfl | rfl
  · show _ = some (S 12 b)
    rw [if_pos (by decide), k0, rb]
  · show _ = some (S 13 b)
    rw [if_neg (by decide), if_pos (by decide), k0, rb]
  · show _ = some (S 14 b)
    rw [if_neg (by decide), if_neg (by decide), if_pos (by decide), k0, rb]
  · show _ = some (S 15 b)
    rw [if_neg (by decide), if_neg (by decide), if_neg (by decide), if_pos (by decide), k0, rb]
  · show _ = some (S 16 b)
    rw [if_neg (by decide), if_neg (by decide), if_neg (by decide), if_neg (by decide), if_pos (by decide), k0, rb]
  · show _ = some (S 17 b)
    rw [if_neg (by decide), if_neg (by decide), if_neg (by decide), if_neg (by decide), if_neg (by decide), if_pos (by decide), k0, rb]
  · show _ = some (S 19 b)
    rw [if_neg (by decide), if_neg (by decide), if_neg (by decide), if_neg (by decide), if_neg (by decide), if_neg (by decide), if_pos (by decide), k0, rb]
  · show _ = some (S 22 b)
    rw [if_neg (by decide), if_neg (by decide), if_neg (by decide), if_neg (by decide), if_neg (by decide), if_neg (by decide), if_neg (by decide), if_pos (by decide), k0, rb]
  · show _ = some (S 20 b)
    rw [if_neg (by decide), if_neg (by decide), if_neg (by decide), if_neg (by decide), if_neg (by decide), if_neg (by decide), if_neg (by decide), if_neg (by decide), if_pos (by decide), k0, rb]
  · show _ = some (S 21 b)
    rw [if_neg (by decide), if_neg (by decide), if_neg (by decide), if_neg (by decide), if_neg (by decide), if_neg (by decide), if_neg (by decide), if_neg (by decide), if_neg (by decide), if_pos (by decide), k0, rb]
  · show _ = some (nI (deg n (S kM_strength) b))
    rw [if_neg (by decide), if_neg (by decide), if_neg (by decide), if_neg (by decide), if_neg (by decide), if_neg (by decide), if_neg (by decide), if_neg (by decide), if_neg (by decide), if_neg (by decide), if_pos (by decide), c_countAt hn hQ hW.2.2.2.2.1 hb, bnd_n]
  · show _ = some (lf S b)
    rw [if_neg (by decide), if_neg (by decide), if_neg (by decide), if_neg (by decide), if_neg (by decide), if_neg (by decide), if_neg (by decide), if_neg (by decide), if_neg (by decide), if_neg (by decide), if_neg (by decide), if_pos (by decide), cr_lift hC hn hb, bnd_n]
  · show _ = some (ld S b)
    rw [if_neg (by decide), if_neg (by decide), if_neg (by decide), if_neg (by decide), if_neg (by decide), if_neg (by decide), if_neg (by decide), if_neg (by decide), if_neg (by decide), if_neg (by decide), if_neg (by decide), if_neg (by decide), cr_load hC hn hb, bnd_n]
theorem lq_barrel (hB : RelB S n k w m r κ) (e : EK S S1) {b what : Nat} (hb : b < n) (hw : what < 13) : ∃ S2, op_barrel S1 (nI b) (nI what) = some (bv n S b what, S2) ∧ EK S S2 := by
  have hB1 := RelB_ext hB e
  have hn : n ≤ 24 := hB.2.2.2.1.1
  have e1 : jX6_barrel (S1 23 0) (S1 12) (S1 13) (S1 14) (S1 15) (S1 16) (S1 17) (S1 18) (S1 19) (S1 20) (S1 21) (S1 22) (S1 31 0) (S1 27) (S1 28) (nI b) (nI what) = some (Sum.inr (bv n S1 b what)) := by
    unfold jX6_barrel
    rw [show S1 23 0 = nI n from hB1.1.1, show S1 31 0 = nI m from hB1.1.2.2.2.2.2.2, c_has (by omega) (by omega), if_pos hb, bnd_n, if_neg one_ne, show jX6_isBelow (nI what) 13 = some 1 from c_below (c := 13) hw (by omega), bnd_n, if_neg one_ne, cf_barrel hB1 hb hw, bnd_n]
  obtain ⟨S2, h2, h3⟩ := oy_barrel (RB_rel hB1) e1
  exact ⟨S2, by rw [h2, bv_ek e], EK_t e h3⟩
/-- what lashing() tells -/
def lv (w : Nat) (S : Nat → Nat → Int32) (a b : Nat) : Nat → Int32
  | 0 => if 0 < S 69 (pr a b) then S 69 (pr a b) else 0
  | 1 => if 0 < S 69 (pr a b) then S 70 (pr a b) else 0
  | _ => if 0 < S 69 (pr a b) then strn (S 62) w S a b else 0
theorem lv_ek (e : EK S S1) : lv w S1 = lv w S := by
  funext a b what
  unfold lv strn ld xN yN
  rw [e 62 rfl, e 69 rfl, e 70 rfl, e 17 rfl, e 18 rfl, e 20 rfl, e 21 rfl]
theorem lq_lashing (hB : RelB S n k w m r κ) (e : EK S S1) {a b what : Nat} (ha : a < n) (hb : b < n) (hw : what < 3) : ∃ S2, op_lashing S1 (nI a) (nI b) (nI what) = some (lv w S a b what, S2) ∧ EK S S2 := by
  have hB1 := RelB_ext hB e
  have e1 : jX6_lashing (S1 5 0) (S1 3) (S1 4) (S1 23 0) (S1 17) (S1 18) (S1 20) (S1 21) (S1 31 0) (S1 27) (S1 28) (S1 29) (S1 30) (nI a) (nI b) (nI what) = some (Sum.inr (lv w S1 a b what)) := by
    have hC := RB_CR hB1
    obtain ⟨⟨s1, s2, s3, s4, s5, s6, s7⟩, -, -, hW, hR, hS, -, hQ, -⟩ := hB1
    have hn := hW.1
    have hm := hQ.1
    unfold jX6_lashing
    rw [show S1 5 0 = nI w from s5, show S1 23 0 = nI n from s1, show S1 31 0 = nI m from s7, c_has (by omega) (by omega), if_pos ha, bnd_n, if_neg one_ne, c_has (by omega) (by omega), if_pos hb, bnd_n, if_neg one_ne, show jX6_isBelow (nI what) 3 = some 1 from c_below (c := 3) hw (by omega), bnd_n, if_neg one_ne]
    obtain ⟨f1, f2⟩ := c_find hQ (by omega : a < 24) (by omega : b < 24)
    have hp := pr_lt (a := a) (b := b) (by omega) (by omega)
    by_cases h0 : 0 < S1 69 (pr a b)
    · obtain ⟨i, hi, hk, e⟩ := f1 h0
      obtain ⟨q1, q2, q3, q4⟩ := hQ.2.2 i hi
      rw [show jX2_find (nI m) (S1 27) (S1 28) (nI a) (nI b) = some (nI i) from e, bnd_n, if_pos (n_nonneg (by omega))]
      rcases (by omega : what = 0 ∨ what = 1 ∨ what = 2) with rfl | rfl | rfl
      · show _ = some (Sum.inr (if 0 < S1 69 (pr a b) then S1 69 (pr a b) else 0))
        rw [if_pos (by decide), chk_n (by omega) (by omega), rd_n (by omega), if_pos h0, ← hk]
        exact congrArg (fun z => some (Sum.inr z)) q3
      · show _ = some (Sum.inr (if 0 < S1 69 (pr a b) then S1 70 (pr a b) else 0))
        rw [if_neg (by decide), if_pos (by decide), chk_n (by omega) (by omega), rd_n (by omega), if_pos h0, ← hk]
        exact congrArg (fun z => some (Sum.inr z)) q4
      · obtain ⟨p, q, k1, k2, k3, k4, k5, fp, sq, -, k6⟩ := Q_pair hn hQ hW.2.2.2.2.1 hi
        have es : jX3_stress (S1 17) (S1 18) (S1 20) (S1 21) (S1 27) (S1 28) (nI w) (S1 3) (S1 4) (nI i) = some (strn (S1 62) w S1 p q) := c_stress hW hS hC (by omega) (by omega) k5 fp sq
        have hab : Tie n (S1 69) a b := by
          refine ⟨ha, hb, fun z => ?_, h0⟩
          rw [z] at hk
          have := hk.symm.trans k1
          unfold pr at this
          omega
        have esym : strn (S1 62) w S1 p q = strn (S1 62) w S1 a b := by
          rcases pr_cases (hk.symm.trans k1) k4 (by omega) (by omega) (by omega) with ⟨rfl, rfl⟩ | ⟨rfl, rfl⟩
          · rfl
          · obtain ⟨x1, x2⟩ := hW.2.2.2.2.2.1 a b hab
            obtain ⟨la, hla, ea⟩ := ld_n hW ha
            obtain ⟨lb, hlb, eb⟩ := ld_n hW hb
            unfold strn xN yN
            rw [x1, x2, ea, eb, mabs_sub (by omega) (by omega), mabs_sub (by omega) (by omega), Nat.add_comm]
        show _ = some (Sum.inr (if 0 < S1 69 (pr a b) then strn (S1 62) w S1 a b else 0))
        rw [if_neg (by decide), if_neg (by decide), es, bnd_n, esym, if_pos h0]
    · rw [show jX2_find (nI m) (S1 27) (S1 28) (nI a) (nI b) = some (-1) from f2 h0, bnd_n, if_neg (by decide)]
      rcases (by omega : what = 0 ∨ what = 1 ∨ what = 2) with rfl | rfl | rfl
      · show _ = some (Sum.inr (if 0 < S1 69 (pr a b) then S1 69 (pr a b) else 0))
        rw [if_neg h0]
      · show _ = some (Sum.inr (if 0 < S1 69 (pr a b) then S1 70 (pr a b) else 0))
        rw [if_neg h0]
      · show _ = some (Sum.inr (if 0 < S1 69 (pr a b) then strn (S1 62) w S1 a b else 0))
        rw [if_neg h0]
  obtain ⟨S2, h2, h3⟩ := oy_lashing (RB_rel hB1) e1
  exact ⟨S2, by rw [h2, lv_ek e], EK_t e h3⟩
theorem lq_seat (hB : RelB S n k w m r κ) (e : EK S S1) {c : Nat} (hc : c < k) : ∃ S2, op_castaway S1 (nI c) 0 = some (S 24 c, S2) ∧ EK S S2 := by
  have hB1 := RelB_ext hB e
  have e1 : jX6_castaway (S1 26 0) (S1 24) (S1 25) (nI c) 0 = some (Sum.inr (S1 24 c)) := by
    have hk := hB1.2.2.2.1.2.1
    unfold jX6_castaway jX6_castawayFact
    rw [show S1 26 0 = nI k from hB1.1.2.2.1, show jX1_has (nI k) (nI c) = some (if c < k then 1 else 0) from c_has (by omega) (by omega), if_pos hc, bnd_n, if_neg one_ne, show jX6_isBelow 0 2 = some 1 from c_below (j := 0) (c := 2) (by omega) (by omega), bnd_n, if_neg one_ne, if_pos (by decide), chk_n (by omega) (by omega), rd_n (by omega), bnd_n]
  obtain ⟨S2, h2, h3⟩ := oy_castaway (RB_rel hB1) e1
  exact ⟨S2, by rw [h2, e 24 rfl], EK_t e h3⟩
theorem lq_kstate (hB : RelB S n k w m r κ) (e : EK S S1) {c : Nat} (hc : c < k) : ∃ S2, op_castaway S1 (nI c) 1 = some (S 25 c, S2) ∧ EK S S2 := by
  have hB1 := RelB_ext hB e
  have e1 : jX6_castaway (S1 26 0) (S1 24) (S1 25) (nI c) 1 = some (Sum.inr (S1 25 c)) := by
    have hk := hB1.2.2.2.1.2.1
    unfold jX6_castaway jX6_castawayFact
    rw [show S1 26 0 = nI k from hB1.1.2.2.1, show jX1_has (nI k) (nI c) = some (if c < k then 1 else 0) from c_has (by omega) (by omega), if_pos hc, bnd_n, if_neg one_ne, show jX6_isBelow 1 2 = some 1 from c_below (j := 1) (c := 2) (by omega) (by omega), bnd_n, if_neg one_ne, if_neg (by decide), chk_n (by omega) (by omega), rd_n (by omega), bnd_n]
  obtain ⟨S2, h2, h3⟩ := oy_castaway (RB_rel hB1) e1
  exact ⟨S2, by rw [h2, e 25 rfl], EK_t e h3⟩
/-- what count() tells of what the law asks -/
theorem lq_count (hB : RelB S n k w m r κ) (e : EK S S1) {what : Nat} {v : Int32} (hw : what < 12) (hv : ∀ S1 : Nat → Nat → Int32, EK S S1 → jX6_countFact (S1 0 0) (S1 10 0) (S1 11 0) (nI n) (S1 17) (S1 19) (S1 22) (nI k) (S1 25) (nI m) (nI what) = some v) : ∃ S2, op_count S1 (nI what) = some (v, S2) ∧ EK S S2 := by
  have hB1 := RelB_ext hB e
  have e1 : jX6_count (S1 0 0) (S1 10 0) (S1 11 0) (S1 23 0) (S1 17) (S1 19) (S1 22) (S1 26 0) (S1 25) (S1 31 0) (nI what) = some (Sum.inr v) := by
    unfold jX6_count
    rw [show S1 23 0 = nI n from hB1.1.1, show S1 26 0 = nI k from hB1.1.2.2.1, show S1 31 0 = nI m from hB1.1.2.2.2.2.2.2, show jX6_isBelow (nI what) 12 = some 1 from c_below (c := 12) hw (by omega), bnd_n, if_neg one_ne, hv S1 e, bnd_n]
  obtain ⟨S2, h2, h3⟩ := oy_count (RB_rel hB1) e1
  exact ⟨S2, h2, EK_t e h3⟩
theorem lq_count0 (hB : RelB S n k w m r κ) (e : EK S S1) : ∃ S2, op_count S1 0 = some (S 10 0, S2) ∧ EK S S2 :=
  lq_count hB e (what := 0) (by omega) (fun S1 e => by unfold jX6_countFact; rw [if_pos (by decide), e 10 rfl])
theorem lq_count2 (hB : RelB S n k w m r κ) (e : EK S S1) : ∃ S2, op_count S1 2 = some (fs (fun j => if S 19 j = 0 then 1 else 0) n, S2) ∧ EK S S2 :=
  lq_count hB e (what := 2) (by omega) (fun S1 e => by unfold jX6_countFact; rw [if_neg (by decide), if_neg (by decide), if_pos (by decide), c_countOf hB.2.2.2.1.1, bnd_n, e 19 rfl])
theorem lq_count4 (hB : RelB S n k w m r κ) (e : EK S S1) : ∃ S2, op_count S1 4 = some (nI k, S2) ∧ EK S S2 :=
  lq_count hB e (what := 4) (by omega) (fun S1 e => by unfold jX6_countFact; rw [if_neg (by decide), if_neg (by decide), if_neg (by decide), if_neg (by decide), if_pos (by decide)])
theorem lq_count6 (hB : RelB S n k w m r κ) (e : EK S S1) : ∃ S2, op_count S1 6 = some (fs (fun c => if S 25 c = 2 then 1 else 0) k, S2) ∧ EK S S2 :=
  lq_count hB e (what := 6) (by omega) (fun S1 e => by unfold jX6_countFact; rw [if_neg (by decide), if_neg (by decide), if_neg (by decide), if_neg (by decide), if_neg (by decide), if_neg (by decide), if_pos (by decide), c_kcount hB.2.2.2.1.2.1, bnd_n, e 25 rfl])
theorem lq_count7 (hB : RelB S n k w m r κ) (e : EK S S1) : ∃ S2, op_count S1 7 = some (nI m, S2) ∧ EK S S2 :=
  lq_count hB e (what := 7) (by omega) (fun S1 e => by unfold jX6_countFact; rw [if_neg (by decide), if_neg (by decide), if_neg (by decide), if_neg (by decide), if_neg (by decide), if_neg (by decide), if_neg (by decide), if_pos (by decide)])
theorem lq_count8 (hB : RelB S n k w m r κ) (e : EK S S1) : ∃ S2, op_count S1 8 = some (fs (fun j => if S 22 j = nI j then 1 else 0) n, S2) ∧ EK S S2 :=
  lq_count hB e (what := 8) (by omega) (fun S1 e => by unfold jX6_countFact; rw [if_neg (by decide), if_neg (by decide), if_neg (by decide), if_neg (by decide), if_neg (by decide), if_neg (by decide), if_neg (by decide), if_neg (by decide), if_pos (by decide), c_pieces hB.2.2.2.1.1, bnd_n, e 22 rfl])
theorem lq_count10 (hB : RelB S n k w m r κ) (e : EK S S1) : ∃ S2, op_count S1 10 = some (S 11 0, S2) ∧ EK S S2 :=
  lq_count hB e (what := 10) (by omega) (fun S1 e => by unfold jX6_countFact; rw [if_neg (by decide), if_neg (by decide), if_neg (by decide), if_neg (by decide), if_neg (by decide), if_neg (by decide), if_neg (by decide), if_neg (by decide), if_neg (by decide), if_neg (by decide), if_pos (by decide), e 11 rfl])
theorem lq_firm0 (hB : RelB S n k w m r κ) (e : EK S S1) {a : Nat} (ha : a < n) : ∃ S2, op_firm S1 (nI a) (nI a) = some (-1, S2) ∧ EK S S2 := by
  have hB1 := RelB_ext hB e
  have hn : n ≤ 24 := hB.2.2.2.1.1
  have e1 : jX6_firm (S1 23 0) (S1 31 0) (S1 27) (S1 28) (S1 56) (S1 57) (S1 58) (nI a) (nI a) = some (Sum.inr (-1, S1 56, S1 57, S1 58)) := by
    unfold jX6_firm
    rw [show S1 23 0 = nI n from hB1.1.1, c_has (by omega) (by omega), if_pos ha, bnd_n, if_neg one_ne, bnd_n, if_neg one_ne, if_pos rfl]
  obtain ⟨S2, h2, h3⟩ := oy_firm (RB_rel hB1) e1
  exact ⟨S2, h2, EK_t e h3⟩
theorem lq_firm (hB : RelB S n k w m r κ) (e : EK S S1) {a b : Nat} (ha : a < n) (hb : b < n) (hab : a ≠ b) : ∃ (v : Nat) (S2 : Nat → Nat → Int32), op_firm S1 (nI a) (nI b) = some (nI v, S2) ∧ EK S S2 ∧ v ≤ 576 ∧ MF n (S 69) a b v := by
  have hB1 := RelB_ext hB e
  obtain ⟨⟨s1, s2, s3, s4, s5, s6, s7⟩, -, -, hW, hR, hS, -, hQ, -⟩ := hB1
  have hn := hW.1
  have hne : ¬ nI a = nI b := fun z => hab ((nI_eq (by omega) (by omega)).mp z)
  obtain ⟨v, us, cb, re, f1, g1, g2⟩ := c_countApart (us := S1 56) (cb := S1 57) (re := S1 58) hn hQ hW.2.2.2.2.1 ha hb hab
  have e1 : jX6_firm (S1 23 0) (S1 31 0) (S1 27) (S1 28) (S1 56) (S1 57) (S1 58) (nI a) (nI b) = some (Sum.inr (nI v, us, cb, re)) := by
    unfold jX6_firm
    rw [show S1 23 0 = nI n from s1, show S1 31 0 = nI m from s7, c_has (by omega) (by omega), if_pos ha, bnd_n, if_neg one_ne, c_has (by omega) (by omega), if_pos hb, bnd_n, if_neg one_ne, if_neg hne, show jX5_countApart (S1 56) (S1 57) (S1 58) (nI m) (S1 27) (S1 28) (nI a) (nI b) = some (nI v, us, cb, re) from f1, bnd_n]
  obtain ⟨S2, h2, h3⟩ := oy_firm (RB_rel (RelB_ext hB e)) e1
  refine ⟨v, S2, h2, EK_t e h3, g1, ?_⟩
  rw [← e 69 rfl]
  exact g2
theorem lq_hold0 (hB : RelB S n k w m r κ) (e : EK S S1) {a : Nat} (ha : a < n) : ∃ S2, op_hold S1 (nI a) (nI a) = some (0, S2) ∧ EK S S2 := by
  have hB1 := RelB_ext hB e
  have hn : n ≤ 24 := hB.2.2.2.1.1
  have e1 : jX6_hold (S1 23 0) (S1 31 0) (S1 27) (S1 28) (S1 29) (S1 30) (S1 59) (nI a) (nI a) = some (Sum.inr (0, S1 59)) := by
    unfold jX6_hold
    rw [show S1 23 0 = nI n from hB1.1.1, c_has (by omega) (by omega), if_pos ha, bnd_n, if_neg one_ne, bnd_n, if_neg one_ne, if_pos rfl]
  obtain ⟨S2, h2, h3⟩ := oy_hold (RB_rel hB1) e1
  exact ⟨S2, h2, EK_t e h3⟩
theorem lq_hold (hB : RelB S n k w m r κ) (e : EK S S1) {a b : Nat} (ha : a < n) (hb : b < n) (hab : a ≠ b) : ∃ (v : Nat) (S2 : Nat → Nat → Int32), op_hold S1 (nI a) (nI b) = some (nI v, S2) ∧ EK S S2 ∧ HO n (S 69) (S 70) a b v := by
  have hB1 := RelB_ext hB e
  obtain ⟨⟨s1, s2, s3, s4, s5, s6, s7⟩, -, -, hW, hR, hS, -, hQ, -⟩ := hB1
  have hn := hW.1
  have hne : ¬ nI a = nI b := fun z => hab ((nI_eq (by omega) (by omega)).mp z)
  obtain ⟨be, v, f1, g1⟩ := c_strongest (be := S1 59) hn hQ hW.2.2.2.2.1 hW.2.2.2.2.2.2 ha hb
  have e1 : jX6_hold (S1 23 0) (S1 31 0) (S1 27) (S1 28) (S1 29) (S1 30) (S1 59) (nI a) (nI b) = some (Sum.inr (nI v, be)) := by
    unfold jX6_hold
    rw [show S1 23 0 = nI n from s1, show S1 31 0 = nI m from s7, c_has (by omega) (by omega), if_pos ha, bnd_n, if_neg one_ne, c_has (by omega) (by omega), if_pos hb, bnd_n, if_neg one_ne, if_neg hne, show jX5_strongest (S1 59) (nI m) (S1 27) (S1 28) (S1 29) (S1 30) (nI a) (nI b) = some (nI v, be) from f1, bnd_n]
  obtain ⟨S2, h2, h3⟩ := oy_hold (RB_rel (RelB_ext hB e)) e1
  refine ⟨v, S2, h2, EK_t e h3, ?_⟩
  rw [← e 69 rfl, ← e 70 rfl]
  exact g1
/-- what piece() tells of a barrel that floats -/
theorem lq_pieceW (hB : RelB S n k w m r κ) (e : EK S S1) {b what : Nat} {v : Int32} (hb : b < n) (h0 : S 19 b = 0) (hw : what < 4) (hv : ∀ S1 : Nat → Nat → Int32, EK S S1 → RelB S1 n k w m r κ → jX6_pieceSum (nI n) (S1 14) (S1 16) (S1 17) (S1 18) (S1 22) (S1 22 b) (nI what) = some v) : ∃ S2, op_piece S1 (nI b) (nI what) = some (v, S2) ∧ EK S S2 := by
  have hB1 := RelB_ext hB e
  have hx := hv S1 e hB1
  have h0' : S1 19 b = 0 := by rw [e 19 rfl]; exact h0
  have e1 : jX6_piece (S1 23 0) (S1 14) (S1 16) (S1 17) (S1 18) (S1 22) (S1 31 0) (S1 27) (S1 28) (S1 56) (S1 57) (S1 58) (nI b) (nI what) = some (Sum.inr (v, S1 56, S1 57, S1 58)) := by
    obtain ⟨⟨s1, s2, s3, s4, s5, s6, s7⟩, -, -, hW, hR, hS, hP, hQ, -⟩ := hB1
    have hn := hW.1
    obtain ⟨i, h1, h2, -⟩ := hP.1 b hb h0'
    have h2' : S1 22 b = nI i := h2
    unfold jX6_piece
    rw [show S1 23 0 = nI n from s1, show S1 31 0 = nI m from s7, c_has (by omega) (by omega), if_pos hb, bnd_n, if_neg one_ne, show jX6_isBelow (nI what) 5 = some 1 from c_below (c := 5) (by omega) (by omega), bnd_n, if_neg one_ne, chk_n (by omega) (by omega), rd_n (by omega), h2', if_pos (n_nonneg (by omega)), if_neg (show ¬ nI what = 4 from fun z => by have := (nI_eq (b := 4) (by omega) (by omega)).mp z; omega), ← h2', hx, bnd_n]
  obtain ⟨S2, h2, h3⟩ := oy_piece (RB_rel hB1) e1
  exact ⟨S2, h2, EK_t e h3⟩
theorem c_psum {A : Nat → Nat → Int32} {li lk wa go pe st x y se ks p : Nat → Int32} {P : Int32} (hn : n ≤ 24) (hC : CR n k A li lk wa go pe st x y se ks) : jX6_pieceSum (nI n) li wa go pe p P 0 = some (fs (fun j => if p j = P then 1 else 0) n) ∧ jX6_pieceSum (nI n) li wa go pe p P 1 = some (LF n A p P) ∧ jX6_pieceSum (nI n) li wa go pe p P 2 = some (LD n A p P) := by
  have key : ∀ (W : Int32) (G : Nat → Int32), (∀ (f : Nat) (acc : Int32) (j : Nat), j < n → p j = P → jX6_pieceSum_L14 (nI n) li wa go pe p P W (f + 1) acc (nI j) = jX6_pieceSum_L14 (nI n) li wa go pe p P W f (acc + G j) (nI (j + 1))) → jX6_pieceSum (nI n) li wa go pe p P W = some (fs (fun j => if p j = P then G j else 0) n) := fun W G hG => by
    refine bnd_i (itF0 (fun g s v => jX6_pieceSum_L14 (nI n) li wa go pe p P W g s v) (fs (fun j => if p j = P then G j else 0)) n (by omega) rfl (fun g => ?_) (fun g j hj => ?_)) rfl
    · rw [jX6_pieceSum_L14, if_pos (Int32.le_refl _)]
    · by_cases e : p j = P
      · rw [hG g _ j hj e, fs, if_pos e]
      · rw [jX6_pieceSum_L14, if_neg (fun z => by have := (nI_leI (by omega) (by omega)).mp z; omega), chk_n (by omega) (by omega), rd_n (by omega), if_neg e, nI_1, fs, if_neg e, Int32.add_zero]
  refine ⟨key 0 (fun _ => 1) (fun f acc j hj e => ?_), key 1 (lf A) (fun f acc j hj e => ?_), key 2 (ld A) (fun f acc j hj e => ?_)⟩
  · rw [jX6_pieceSum_L14, if_neg (fun z => by have := (nI_leI (by omega) (by omega)).mp z; omega), chk_n (by omega) (by omega), rd_n (by omega), if_pos e, if_pos rfl, nI_1]
  · rw [jX6_pieceSum_L14, if_neg (fun z => by have := (nI_leI (by omega) (by omega)).mp z; omega), chk_n (by omega) (by omega), rd_n (by omega), if_pos e, if_neg (by decide), if_pos rfl, cr_lift hC hn hj, bnd_n, nI_1]
  · rw [jX6_pieceSum_L14, if_neg (fun z => by have := (nI_leI (by omega) (by omega)).mp z; omega), chk_n (by omega) (by omega), rd_n (by omega), if_pos e, if_neg (by decide), if_neg (by decide), if_pos rfl, cr_load hC hn hj, bnd_n, nI_1]
theorem LF_ek (e : EK S S1) {p : Nat → Int32} {P : Int32} : LF n S1 p P = LF n S p P := by
  unfold LF lf
  rw [e 14 rfl, e 16 rfl]
theorem LD_ek (e : EK S S1) {p : Nat → Int32} {P : Int32} : LD n S1 p P = LD n S p P := by
  unfold LD ld
  rw [e 17 rfl, e 18 rfl]
theorem lq_piece0 (hB : RelB S n k w m r κ) (e : EK S S1) {b : Nat} (hb : b < n) (h0 : S 19 b = 0) : ∃ S2, op_piece S1 (nI b) 0 = some (fs (fun j => if S 22 j = S 22 b then 1 else 0) n, S2) ∧ EK S S2 :=
  lq_pieceW hB e (what := 0) hb h0 (by omega) (fun S1 e hB1 => by rw [← e 22 rfl]; exact (c_psum hB.2.2.2.1.1 (RB_CR hB1)).1)
theorem lq_piece1 (hB : RelB S n k w m r κ) (e : EK S S1) {b : Nat} (hb : b < n) (h0 : S 19 b = 0) : ∃ S2, op_piece S1 (nI b) 1 = some (LF n S (S 22) (S 22 b), S2) ∧ EK S S2 :=
  lq_pieceW hB e (what := 1) hb h0 (by omega) (fun S1 e hB1 => by rw [← LF_ek e, ← e 22 rfl]; exact (c_psum hB.2.2.2.1.1 (RB_CR hB1)).2.1)
theorem lq_piece2 (hB : RelB S n k w m r κ) (e : EK S S1) {b : Nat} (hb : b < n) (h0 : S 19 b = 0) : ∃ S2, op_piece S1 (nI b) 2 = some (LD n S (S 22) (S 22 b), S2) ∧ EK S S2 :=
  lq_pieceW hB e (what := 2) hb h0 (by omega) (fun S1 e hB1 => by rw [← LD_ek e, ← e 22 rfl]; exact (c_psum hB.2.2.2.1.1 (RB_CR hB1)).2.2)
theorem lq_piece4 (hB : RelB S n k w m r κ) (e : EK S S1) {b : Nat} (hb : b < n) (h0 : S 19 b = 0) : ∃ (G : Nat → Int32) (S2 : Nat → Nat → Int32), op_piece S1 (nI b) 4 = some (fs G 576, S2) ∧ EK S S2 ∧ brs n (S 69) (S 70) (S 22) (S 22 b) G := by
  have hB1 := RelB_ext hB e
  have h0' : S1 19 b = 0 := by rw [e 19 rfl]; exact h0
  obtain ⟨G, hG⟩ := brs_ex n (S1 69) (S1 70) (S1 22) (S1 22 b)
  have e1 : ∃ us cb re, jX6_piece (S1 23 0) (S1 14) (S1 16) (S1 17) (S1 18) (S1 22) (S1 31 0) (S1 27) (S1 28) (S1 56) (S1 57) (S1 58) (nI b) 4 = some (Sum.inr (fs G 576, us, cb, re)) := by
    obtain ⟨⟨s1, s2, s3, s4, s5, s6, s7⟩, -, -, hW, hR, hS, hP, hQ, -⟩ := hB1
    have hn := hW.1
    obtain ⟨i, h1, h2, -⟩ := hP.1 b hb h0'
    have h2' : S1 22 b = nI i := h2
    obtain ⟨us, cb, re, g1⟩ := c_single (us := S1 56) (cb := S1 57) (re := S1 58) hn hQ hW.2.2.2.2.1 hW.2.2.2.2.2.2 hG
    refine ⟨us, cb, re, ?_⟩
    unfold jX6_piece
    rw [show S1 23 0 = nI n from s1, show S1 31 0 = nI m from s7, c_has (by omega) (by omega), if_pos hb, bnd_n, if_neg one_ne, show jX6_isBelow 4 5 = some 1 from c_below (j := 4) (c := 5) (by omega) (by omega), bnd_n, if_neg one_ne, chk_n (by omega) (by omega), rd_n (by omega), h2', if_pos (n_nonneg (by omega)), if_pos rfl, ← h2', show jX6_singleLashings (S1 22) (nI m) (S1 27) (S1 28) (S1 56) (S1 57) (S1 58) (S1 22 b) = some (fs G 576, us, cb, re) from g1, bnd_n]
  obtain ⟨us, cb, re, e1⟩ := e1
  obtain ⟨S2, h2, h3⟩ := oy_piece (RB_rel (RelB_ext hB e)) e1
  refine ⟨G, S2, h2, EK_t e h3, ?_⟩
  rw [← e 69 rfl, ← e 70 rfl, ← e 22 rfl]
  exact hG
end Ask
