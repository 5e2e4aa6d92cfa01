/-! the law's own raft: the sea, its lashings wear -/
def SW (w : Nat) (Wt : Nat → Int32) (wF : Nat → Nat → Int32) : Prop := ∀ v, v < w → ∀ i, i < 7 → wF v i = Wt (7 * v + i)
def sF (Wt : Nat → Int32) : Option Nat → Nat → Int32
  | some k => wr (wr (wr (wr (fun _ => 0) 0 (Wt (7 * k + 4))) 1 (Wt (7 * k + 5))) 2 (Wt (7 * k + 6))) 3 (nI k)
  | none => wr (wr (wr (wr (fun _ => 0) 0 0) 1 0) 2 0) 3 (-1)
theorem s_seaF {w : Nat} {Wt : Nat → Int32} {wF : Nat → Nat → Int32} {x y : Nat} (hS : WOK w Wt) (hw : SW w Wt wF) (hx : x < 30) (hy : y < 20) : jS_sea w wF (nI x) (nI y) = some (sF Wt (wA Wt x y w)) := by
  unfold jS_sea
  rw [chkP_n hS.1]
  refine bnd_i (itNF (fun g j s => jS_sea_L23 (nI x) (nI y) wF g j s) (fun j => sF Wt (wA Wt x y j)) w rfl rfl (fun g j hj => ?_)) rfl
  obtain ⟨x0, y0, wd, dp, v, e0, e1, e2, e3, -, -, b1, b2, -⟩ := hS.2 j hj
  have hc : cov Wt j x y = true ↔ (x0 ≤ x ∧ x < x0 + wd ∧ y0 ≤ y ∧ y < y0 + dp) := by
    unfold cov
    rw [e0, e1, e2, e3, decide_eq_true_eq, clamp_n (by omega), clamp_n (by omega), clamp_n (by omega), clamp_n (by omega)]
  rw [jS_sea_L23, rd0, rd1, rd2, rd3, rd4, rd5, rd6, hw j hj 0 (by omega), hw j hj 1 (by omega), hw j hj 2 (by omega), hw j hj 3 (by omega), hw j hj 4 (by omega), hw j hj 5 (by omega), hw j hj 6 (by omega), show 7 * j + 0 = 7 * j from rfl, e0, e1, e2, e3, nI_add, nI_add, wA]
  simp (disch := omega) only [nI_ltI, nI_leI]
  by_cases q1 : x < x0
  · rw [if_pos q1, if_neg (fun z => by have := hc.mp z; omega)]
  · rw [if_neg q1]
    by_cases q2 : x0 + wd ≤ x
    · rw [if_pos q2, if_neg (fun z => by have := hc.mp z; omega)]
    · rw [if_neg q2]
      by_cases q3 : y < y0
      · rw [if_pos q3, if_neg (fun z => by have := hc.mp z; omega)]
      · rw [if_neg q3]
        by_cases q4 : y0 + dp ≤ y
        · rw [if_pos q4, if_neg (fun z => by have := hc.mp z; omega)]
        · rw [if_neg q4, if_pos (hc.mpr (by omega)), sF]
theorem sF_g {Wt : Nat → Int32} {w x y : Nat} : rd (sF Wt (wA Wt x y w)) 0 = gS Wt w 0 x y ∧ rd (sF Wt (wA Wt x y w)) 1 = gS Wt w 1 x y ∧ rd (sF Wt (wA Wt x y w)) 2 = gS Wt w 2 x y := by
  unfold gS
  rw [rd0, rd1, rd2]
  cases wA Wt x y w with
  | none =>
    rw [sF, wr0, wr1, wr2, wr3]
    exact ⟨by rw [upd_b (by decide), upd_b (by decide), upd_b (by decide), upd_a], by rw [upd_b (by decide), upd_b (by decide), upd_a], by rw [upd_b (by decide), upd_a]⟩
  | some k =>
    rw [sF, wr0, wr1, wr2, wr3]
    exact ⟨by rw [upd_b (by decide), upd_b (by decide), upd_b (by decide), upd_a], by rw [upd_b (by decide), upd_b (by decide), upd_a], by rw [upd_b (by decide), upd_a]⟩
section SMw
variable {n k m nR w : Nat} {A : Nat → Nat → Int32} {sg κ : Nat → Nat} {bF tF pF wF : Nat → Nat → Int32} {p Wt : Nat → Int32}
theorem s_seaA (h : SM n k m A nR sg κ bF tF pF) (hW : WA n k A) (hS : WOK w Wt) (hw : SW w Wt wF) {a : Nat} (ha : a < n) : ∃ f, jS_sea w wF (rd (bF a) 7) (rd (bF a) 8) = some f ∧ rd f 0 = gS Wt w 0 (xN A a) (yN A a) ∧ rd f 1 = gS Wt w 1 (xN A a) (yN A a) ∧ rd f 2 = gS Wt w 2 (xN A a) (yN A a) := by
  obtain ⟨-, -, -, -, -, b7, b8⟩ := h.1 a ha
  obtain ⟨⟨x, hx, ex⟩, ⟨y, hy, ey⟩, -⟩ := hW.2.2.1 a ha
  refine ⟨_, by rw [rd7, rd8, b7, b8, ex, ey]; exact s_seaF hS hw hx hy, ?_⟩
  rw [show xN A a = x by unfold xN; rw [ex, clamp_n (by omega)], show yN A a = y by unfold yN; rw [ey, clamp_n (by omega)]]
  exact sF_g
theorem s_inj (h : SM n k m A nR sg κ bF tF pF) {i j : Nat} (hi : i < m) (hj : j < m) (e : sg i = sg j) : i = j := by
  obtain ⟨q1, q2, -, -⟩ := h.2.2.1.2.2 i hi
  obtain ⟨r1, r2, -, -⟩ := h.2.2.1.2.2 j hj
  have b1 := (h.2.2.1.2.1.1 i hi).1
  have b2 := (h.2.2.1.2.1.1 j hj).1
  dsimp only at q1 q2 r1 r2
  rw [e] at q1 q2
  have c1 := (nI_eq (by omega) (by omega)).mp (q1.symm.trans r1)
  have c2 := (nI_eq (by omega) (by omega)).mp (q2.symm.trans r2)
  have c3 : κ i = κ j := by omega
  by_cases l : i < j
  · have := h.2.2.1.2.1.2.1 i j l hj
    omega
  · by_cases l2 : j < i
    · have := h.2.2.1.2.1.2.1 j i l2 hi
      omega
    · omega
theorem s_wear (h : SM n k m A nR sg κ bF tF pF) (hW : WA n k A) (hS : WOK w Wt) (hw : SW w Wt wF) :
    ∃ tF' m' sg' κ', jS_pass_L128 sg w wF n bF nR k pF m 0 tF 0 0 (fun _ => 0) = some (tF', fs (fun q => if brk Wt w A q = true then 1 else 0) 576, m', sg') ∧ SM n k m' (wearA Wt w A) nR sg' κ' bF tF' pF ∧ m' ≤ m := by
  have hn := hW.1
  have hm := h.2.2.2.1
  have l : ∃ r, jS_pass_L128 sg w wF n bF nR k pF m 0 tF 0 0 (fun _ => 0) = some r ∧ (KP sg (fun i => !brk Wt w A (κ i)) m (r.2.2.1, r.2.2.2) ∧ r.2.1 = fs (fun i => if brk Wt w A (κ i) = true then 1 else 0) m ∧ ∀ i, i < m → r.1 (sg i) = if i < m ∧ brk Wt w A (κ i) = false then upd (tF (sg i)) 3 (tF (sg i) 3 + strn Wt w A (κ i / 24) (κ i % 24) / 4) else tF (sg i)) := by
    refine itN0 (s0 := (tF, 0, 0, fun _ => 0)) (fun g j (x : (Nat → Nat → Int32) × Int32 × Nat × (Nat → Nat)) => jS_pass_L128 sg w wF n bF nR k pF g j x.1 x.2.1 x.2.2.1 x.2.2.2) m
      (fun j r => KP sg (fun i => !brk Wt w A (κ i)) j (r.2.2.1, r.2.2.2) ∧ r.2.1 = fs (fun i => if brk Wt w A (κ i) = true then 1 else 0) j ∧ ∀ i, i < m → r.1 (sg i) = if i < j ∧ brk Wt w A (κ i) = false then upd (tF (sg i)) 3 (tF (sg i) 3 + strn Wt w A (κ i / 24) (κ i % 24) / 4) else tF (sg i)) _ ?_ (fun x hx => ⟨x, rfl, hx⟩) (fun g j x hj hx => ?_)
    · exact ⟨KP_0, rfl, fun i hi => (if_neg (fun z => absurd z.1 (Nat.not_lt_zero i))).symm⟩
    · obtain ⟨t, v, c, s⟩ := x
      obtain ⟨k1, k2, k3⟩ := hx
      dsimp only at k1 k2 k3 ⊢
      obtain ⟨a, b, hab, hb, e, f0, f1, f2, f3, d0, -, -, ht, hR⟩ := s_at h hW hj
      have tj : t (sg j) = tF (sg j) := (k3 j hj).trans (if_neg (fun z => absurd z.1 (Nat.lt_irrefl j)))
      obtain ⟨f, es, -, -, g2⟩ := s_seaA h hW hS hw (show a < n by omega)
      have hst : strn Wt w A (κ j / 24) (κ j % 24) = gS Wt w 2 (xN A a) (yN A a) + mabs (ld A a - ld A b) / 2 := by
        rw [show κ j / 24 = a by omega, show κ j % 24 = b by omega]
        rfl
      have cj : c ≤ j := KP_le k1
      rw [jS_pass_L128, chkP_n hR, tj, rd0, rd1, f0, f1, chk_n (by omega) (by omega), chk_n (by omega) (by omega), clamp_n (by omega), es, bnd_n, s_load h hW (by omega), bnd_n, s_load h hW hb, bnd_n, g2, ← hst, rd2, rd3, f2, f3]
      by_cases q : strn Wt w A (κ j / 24) (κ j % 24) ≤ A kM_strength (κ j) - A kM_wear (κ j)
      · have hbr : brk Wt w A (κ j) = false := decide_eq_false (fun z => z.2 q)
        rw [if_pos q, chkP_n (KP_lt k1 (fun i hi => h.2.2.2.2.1 i (by omega))), chkP_n (by omega)]
        refine ⟨(uF t (sg j) (wr (tF (sg j)) 3 (A kM_wear (κ j) + strn Wt w A (κ j / 24) (κ j % 24) / 4)), v, c + 1, uN s c (sg j)), ⟨KP_keep k1 (by show (!brk Wt w A (κ j)) = true; rw [hbr]; rfl), ?_, fun i hi => ?_⟩, rfl⟩
        · rw [fs, hbr, if_neg (by decide), Int32.add_zero]
          exact k2
        · dsimp only
          by_cases z : i = j
          · rw [z, uF_a, wr3, if_pos ⟨Nat.lt_succ_self j, hbr⟩, f3]
          · rw [uF_b (fun y => z (s_inj h hi hj y)), k3 i hi]
            simp only [p_lts z]
      · have hbr : brk Wt w A (κ j) = true := decide_eq_true ⟨d0, q⟩
        rw [if_neg q]
        refine ⟨(t, v + 1, c, s), ⟨KP_drop k1 (by show (!brk Wt w A (κ j)) = false; rw [hbr]; rfl), ?_, fun i hi => ?_⟩, rfl⟩
        · rw [fs, hbr, if_pos rfl]
          rw [k2]
        · dsimp only
          rw [k3 i hi]
          by_cases z : i = j
          · rw [z, hbr, if_neg (fun y => absurd y.2 (by decide)), if_neg (fun y => absurd y.2 (by decide))]
          · simp only [p_lts z]
  obtain ⟨⟨tF', v, m', sg'⟩, l1, l2, l3, l4⟩ := l
  dsimp only at l2 l3 l4
  have cnt : v = fs (fun q => if brk Wt w A q = true then 1 else 0) 576 := by
    rw [l3, enu_fs (g := fun q => if brk Wt w A q = true then 1 else 0) h.2.2.1.2.1]
    refine fs_congr fun q hq => ?_
    by_cases z : 0 < A kM_strength q
    · rw [decide_eq_true z, if_pos rfl]
    · rw [decide_eq_false z, if_neg (by decide), brk_no z, if_neg (by decide)]
  obtain ⟨κ', Q, le⟩ := QOK_kept (tF' := tF') (T' := wearA Wt w A kM_strength) (U' := wearA Wt w A kM_wear) h.2.2.1 l2 (fun i hi => by
      obtain ⟨a, b, hab, hb, e, -, -, -, -, d0, -, -, ht, -⟩ := s_at h hW hi
      rw [wearA_T]
      show (!brk Wt w A (κ i)) = true ↔ _
      cases brk Wt w A (κ i) with
      | true => simp
      | false => simpa using d0) (fun q _ hq => by
      rw [wearA_T] at hq
      by_cases z : brk Wt w A q = true
      · rw [if_pos z] at hq
        exact absurd hq (by decide)
      · rw [if_neg z] at hq
        exact hq) (fun i hi hK => by
      obtain ⟨a, b, hab, hb, e, f0, f1, t2, t3, d0, -, -, ht, -⟩ := s_at h hW hi
      have hb2 : brk Wt w A (κ i) = false := by
        replace hK : (!brk Wt w A (κ i)) = true := hK
        cases z : brk Wt w A (κ i) with
        | true => rw [z] at hK; exact absurd hK (by decide)
        | false => rfl
      rw [l4 i hi, if_pos ⟨hi, hb2⟩, wearA_T, wearA_U, hb2, if_neg (by decide)]
      exact ⟨upd_b (by decide), upd_b (by decide), (upd_b (by decide)).trans t2, by rw [upd_a, t3]⟩)
  exact ⟨tF', m', sg', κ', by rw [l1, cnt], ⟨h.1, h.2.1, Q, by omega, KP_lt l2 h.2.2.2.2.1, h.2.2.2.2.2.1, h.2.2.2.2.2.2⟩, le⟩
end SMw
