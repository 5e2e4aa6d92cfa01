/-! advise: each lashing made anew, and what comes of it -/
/-- so many castaways are saved -/
def VAL (n k w : Nat) (Wt : Nat → Int32) (wx wy : Int32) (hh : Nat) (A : Nat → Nat → Int32) (v : Int32) : Prop := ∃ A' B, Hrs n w Wt wx wy hh A A' B ∧ v = fs (fun c => if A' kK_state c = 2 then 1 else 0) k
theorem VAL_one {n k w : Nat} {Wt : Nat → Int32} {wx wy : Int32} {hh : Nat} {A : Nat → Nat → Int32} {v v' : Int32} (hS : WOK w Wt) (hW : WA n k A) (h : VAL n k w Wt wx wy hh A v) (h' : VAL n k w Wt wx wy hh A v') : v = v' := by
  obtain ⟨A1, B1, h1, rfl⟩ := h
  obtain ⟨A2, B2, h2, rfl⟩ := h'
  rw [(Hrs_one hS hW h1 h2).1]
theorem fo_stable {σ : Type} {g : Nat → σ → σ} {s : σ} {i : Nat} : ∀ {m : Nat}, i ≤ m → (∀ j, i ≤ j → j < m → g j (fo g i s) = fo g i s) → fo g m s = fo g i s
  | 0, h, _ => by rw [show i = 0 by omega]
  | m + 1, h, e => by
    by_cases q : i = m + 1
    · rw [q]
    · rw [fo, fo_stable (m := m) (by omega) (fun j h1 h2 => e j h1 (by omega))]
      exact e m (by omega) (by omega)
def adv (V : Nat → Int32) (q : Nat) (s : Int32 × Int32) : Int32 × Int32 := if s.2 < V q then (nI q, V q) else s
section Adv
variable {S : Nat → Nat → Int32} {n k w m r : Nat} {κ : Nat → Nat} {hh : Nat}
theorem setA_ok (hB : RelB S n k w m r κ) {q : Nat} (hq : q < 576) (h0 : 0 < S 69 q) {x : Int32} (hx : 0 < x) : WA n k (setA S q x) ∧ PN n (setA S q x) (S 22) ∧ RM n k (setA S q x) (S 66) (S 68) (upd (S 69) q x) (upd (S 70) q 0) (S 71) ∧ KI k (setA S q x) ∧ CR n k (setA S q x) (S 14) (S 15) (S 16) (S 17) (S 18) (S 19) (S 20) (S 21) (S 24) (S 25) := by
  have hC := RB_CR hB
  obtain ⟨-, -, -, hW, hR, hS, hP, hQ, hc, hz, hK⟩ := hB
  have hn := hW.1
  obtain ⟨a, b, k1, k2, k3, k4, k5, -⟩ := hW.2.2.2.2.1 q hq (i_pos_ne h0)
  have e : q = pr a b := by rw [pr_of k2]; exact k1
  have ht : Tie n (S 69) a b := ⟨by omega, k3, by omega, by rw [← e]; exact h0⟩
  obtain ⟨x1, x2⟩ := hW.2.2.2.2.2.1 a b ht
  refine ⟨?_, ?_, ⟨hR.1, fun _ _ => rfl, fun _ _ _ => rfl, hR.2.2.2⟩, hK, ⟨fun _ _ => ⟨rfl, rfl, rfl, rfl, rfl, rfl, rfl, rfl⟩, fun _ _ => ⟨rfl, rfl⟩, hz⟩⟩
  · rw [e]
    exact WA_set hW (by omega) k3 (by omega) (Int32.le_of_lt hx) (fun _ => ⟨k4, k5, x1, x2⟩)
  · refine POK_iff (fun c d => ?_) hP
    show Tie n (S 69) c d ↔ Tie n (upd (S 69) q x) c d
    unfold Tie
    by_cases z : pr c d = q
    · rw [z, upd_a]
      exact ⟨fun ⟨y1, y2, y3, _⟩ => ⟨y1, y2, y3, hx⟩, fun ⟨y1, y2, y3, _⟩ => ⟨y1, y2, y3, h0⟩⟩
    · rw [upd_b z]
/-- the class tries one out -/
theorem c_saved0 (hB : RelB S n k w m r κ) (hhh : hh < 900) (th tbr tn tkn tqn : Int32) (tpl tpd tco tro tli tlk twa tgo tpe tst tx ty tp tse tks tqf tqs tqt tqu : Nat → Int32) :
    ∃ v R, jX6_savedWith (nI w) (S 6 0) (S 7 0) (S 1) (S 2) (S 3) (S 4) (S 10 0) (S 11 0) (nI n) (S 12) (S 13) (S 14) (S 15) (S 16) (S 17) (S 18) (S 19) (S 20) (S 21) (S 22) (nI k) (S 24) (S 25) (nI m) (S 27) (S 28) (S 29) (S 30) th tbr tpl tpd tn tco tro tli tlk twa tgo tpe tst tx ty tp tkn tse tks tqn tqf tqs tqt tqu (-1) (nI hh) = some (v, R) ∧ VAL n k w (S 62) (S 6 0) (S 7 0) hh S v := by
  have hC := RB_CR hB
  obtain ⟨-, -, -, hW, hR, hS, hP, hQ, hc, hz, hK⟩ := hB
  have hn := hW.1
  have hk := hW.2.1
  obtain ⟨co', ro', li', lk', wa', go', pe', st', x', y', p', se', ks', f', s', t', u', f1, gC, gP, gQ⟩ := c_copy (co := S 12) (ro := S 13) (ho := S 10 0) (br := S 11 0) hn hk hC hP hQ th tbr tn tkn tqn tco tro tli tlk twa tgo tpe tst tx ty tp tse tks tqf tqs tqt tqu
  obtain ⟨A', B, pl2, pd2, wa2, go2, pe2, st2, x2, y2, p2, se2, ks2, m2, qf2, qs2, qt2, qu2, κ2, f2, hH, hC2, hP2, hm2, hQ2⟩ := c_passHours (wx := S 6 0) (wy := S 7 0) (ho := S 10 0) (br := S 11 0) (pl := tpl) (pd := tpd) hS hhh hW gC gP gQ
  have f3 : jX1_countOf (nI k) ks2 2 = some (fs (fun c => if ks2 c = 2 then 1 else 0) k) := c_kcount hk
  refine ⟨fs (fun c => if ks2 c = 2 then 1 else 0) k, (S 10 0 + nI hh, S 11 0 + B, pl2, pd2, nI n, co', ro', li', lk', wa2, go2, pe2, st2, x2, y2, p2, nI k, se2, ks2, nI m2, qf2, qs2, qt2, qu2), ?_, A', B, hH, fs_congr fun c hc => by rw [(hC2.2.1 c hc).2]⟩
  unfold jX6_savedWith
  refine bnd_i f1 ?_
  rw [if_pos m1_neg]
  exact bnd_i f2 (bnd_i f3 rfl)
theorem c_saved (hB : RelB S n k w m r κ) (hhh : hh < 900) {i : Nat} (hi : i < m) (th tbr tn tkn tqn : Int32) (tpl tpd tco tro tli tlk twa tgo tpe tst tx ty tp tse tks tqf tqs tqt tqu : Nat → Int32) :
    ∃ v R, jX6_savedWith (nI w) (S 6 0) (S 7 0) (S 1) (S 2) (S 3) (S 4) (S 10 0) (S 11 0) (nI n) (S 12) (S 13) (S 14) (S 15) (S 16) (S 17) (S 18) (S 19) (S 20) (S 21) (S 22) (nI k) (S 24) (S 25) (nI m) (S 27) (S 28) (S 29) (S 30) th tbr tpl tpd tn tco tro tli tlk twa tgo tpe tst tx ty tp tkn tse tks tqn tqf tqs tqt tqu (nI i) (nI hh) = some (v, R) ∧ VAL n k w (S 62) (S 6 0) (S 7 0) hh (setA S (κ i) 50) v := by
  have hC := RB_CR hB
  have hB0 := hB
  obtain ⟨-, -, -, hW, hR, hS, hP, hQ, hc, hz, hK⟩ := hB
  have hn := hW.1
  have hk := hW.2.1
  have hm := hQ.1
  have hki := hQ.2.1.1 i hi
  have h0 : 0 < S 69 (κ i) := of_decide_eq_true hki.2
  obtain ⟨hW', hP', -, -, hC'⟩ := setA_ok hB0 hki.1 h0 (x := 50) (by decide)
  obtain ⟨co', ro', li', lk', wa', go', pe', st', x', y', p', se', ks', f', s', t', u', f1, gC, gP, gQ⟩ := c_copy (co := S 12) (ro := S 13) (ho := S 10 0) (br := S 11 0) hn hk hC' hP' hQ th tbr tn tkn tqn tco tro tli tlk twa tgo tpe tst tx ty tp tse tks tqf tqs tqt tqu
  have gQ' := QOK_renew (x := 50) gQ hi (by decide)
  obtain ⟨A', B, pl2, pd2, wa2, go2, pe2, st2, x2, y2, p2, se2, ks2, m2, qf2, qs2, qt2, qu2, κ2, f2, hH, hC2, hP2, hm2, hQ2⟩ := c_passHours (wx := S 6 0) (wy := S 7 0) (ho := S 10 0) (br := S 11 0) (pl := tpl) (pd := tpd) hS hhh hW' gC gP gQ'
  have f3 : jX1_countOf (nI k) ks2 2 = some (fs (fun c => if ks2 c = 2 then 1 else 0) k) := c_kcount hk
  refine ⟨fs (fun c => if ks2 c = 2 then 1 else 0) k, (S 10 0 + nI hh, S 11 0 + B, pl2, pd2, nI n, co', ro', li', lk', wa2, go2, pe2, st2, x2, y2, p2, nI k, se2, ks2, nI m2, qf2, qs2, qt2, qu2), ?_, A', B, hH, fs_congr fun c hc => by rw [(hC2.2.1 c hc).2]⟩
  unfold jX6_savedWith
  refine bnd_i f1 ?_
  rw [if_neg (n_neg (by omega)), if_neg (fun z => by have := (nI_leI (by omega) (by omega)).mp z; omega), c_renew (by omega), bnd_n]
  exact bnd_i f2 (bnd_i f3 rfl)
/-- the reference tries one out -/
theorem r_saved {A : Nat → Nat → Int32} {fx tb T U pp nu pc Wt : Nat → Int32} {wx wy : Int32} {v : Int32} (hS : WOK w Wt) (hhh : hh < 900) (hW : WA n k A) (hR : RM n k A fx tb T U pp) (hV : VAL n k w Wt wx wy hh A v) : ∃ pc', jX7_look (nI w) wx wy (nI n) (nI k) Wt fx tb T U pp nu pc (nI hh) 1 = some (v, pc') := by
  obtain ⟨A', B, hH, rfl⟩ := hV
  obtain ⟨tb', T', U', pp', nu', pc', e, hR'⟩ := r_lookL (wx := wx) (wy := wy) hS hhh FU 0 A A' B fx tb T U pp nu pc (by omega) (by unfold FU; omega) hW hR (by rw [Nat.sub_zero]; exact hH)
  have e' : jX7_look_L8 (nI w) wx wy (nI n) (nI k) Wt fx (nI hh) FU tb T U pp nu pc 0 = some (tb', T', U', pp', nu', pc') := e
  have f2 : jX7_crewWith (nI k) pp' 2 = some (fs (fun c => if A' kK_state c = 2 then 1 else 0) k) := by
    rw [r_crewWith hW.2.1]
    congr 1
    exact fs_congr fun c hc => by rw [(hR'.2.2.2.1 c hc).2]
  unfold jX7_look
  rw [e', bnd_n]
  dsimp only
  unfold jX7_counted
  exact ⟨pc', by rw [if_neg (by decide), if_pos rfl, if_neg (by decide), if_neg (by decide), if_neg (by decide), if_neg (by decide), if_neg (by decide), if_neg (by decide), if_pos rfl, f2, bnd_n, bnd_n]⟩
/-- no more are saved than are not lost -/
theorem VAL_le {A : Nat → Nat → Int32} {Wt : Nat → Int32} {wx wy : Int32} {v : Int32} (hk : k ≤ 8) (hK : KI k A) (hV : VAL n k w Wt wx wy hh A v) : v ≤ nI k - fs (fun c => if A kK_state c = 1 then 1 else 0) k := by
  obtain ⟨A', B, hH, rfl⟩ := hV
  obtain ⟨-, h⟩ := KI_Hrs hK hH
  rw [fs_ns (P := fun c => A' kK_state c = 2), fs_ns (P := fun c => A kK_state c = 1)]
  have hle : ns (fun c => if A' kK_state c = 2 then 1 else 0) k + ns (fun c => if A kK_state c = 1 then 1 else 0) k ≤ k := by
    rw [← ns_add]
    have : ns (fun c => (if A' kK_state c = 2 then 1 else 0) + (if A kK_state c = 1 then 1 else 0)) k ≤ ns (fun _ => 1) k := ns_le fun c hc => by
      by_cases q : A kK_state c = 1
      · have h1 : A kK_state c ≠ 0 := by rw [q]; decide
        have := h c hc h1
        rw [q] at this
        rw [if_pos q, this, if_neg (by decide)]
        exact Nat.le_refl _
      · rw [if_neg q]; split <;> omega
    have e1 : ∀ c, ns (fun _ => 1) c = c := fun c => by
      induction c with
      | zero => rfl
      | succ c ih => rw [ns, ih]
    rw [e1] at this
    exact this
  rw [pk_sub (by omega)]
  exact (nI_leI (by omega) (by omega)).mpr (by omega)
end Adv
