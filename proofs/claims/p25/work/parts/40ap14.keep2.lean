/-! what wear and drift keep; an hour of the reference -/
theorem i_sub_add (a b c : Int32) : a - (b + c) = a - b - c := by grind
theorem i_pos_ne {x : Int32} (h : 0 < x) : x ≠ 0 := fun q => by rw [q] at h; exact absurd h (by decide)
theorem WA_wear {n k w : Nat} {A : Nat → Nat → Int32} {Wt : Nat → Int32} (hW : WA n k A) (hS : WOK w Wt) : WA n k (wearA Wt w A) := by
  have hTT : ∀ q, wearA Wt w A kM_strength q ≠ 0 → wearA Wt w A kM_strength q = A kM_strength q ∧ brk Wt w A q = false := fun q h => by
    rw [wearA_T] at h ⊢
    by_cases b : brk Wt w A q = true
    · rw [if_pos b] at h; exact absurd rfl h
    · rw [if_neg b]; exact ⟨rfl, Bool.eq_false_iff.mpr b⟩
  have hW0 := hW
  obtain ⟨hn, hk, h1, h2, h3, h4, h5⟩ := hW
  refine ⟨hn, hk, h1, h2, fun q hq h0 => ?_, fun a b hab => ?_, fun q hq h0 => ?_⟩
  · have := (hTT q h0).1
    rw [this] at h0 ⊢
    exact h3 q hq h0
  · have := (hTT _ (i_pos_ne hab.2.2.2)).1
    exact h4 a b ⟨hab.1, hab.2.1, hab.2.2.1, by rw [← this]; exact hab.2.2.2⟩
  · obtain ⟨e, nb⟩ := hTT q (i_pos_ne h0)
    rw [e] at h0 ⊢
    rw [wearA_U, i_sub_add]
    have hle : strn Wt w A (q / 24) (q % 24) ≤ A kM_strength q - A kM_wear q := by
      by_cases z : strn Wt w A (q / 24) (q % 24) ≤ A kM_strength q - A kM_wear q
      · exact z
      · exact absurd (decide_eq_true (⟨h0, z⟩ : 0 < A kM_strength q ∧ ¬ strn Wt w A (q / 24) (q % 24) ≤ A kM_strength q - A kM_wear q)) (by unfold brk at nb; rw [nb]; decide)
    obtain ⟨a, b, hq2, hab, hbn, -⟩ := h3 q hq (i_pos_ne h0)
    obtain ⟨s, hs, es⟩ := strn_n (a := q / 24) (b := q % 24) hW0 hS (by omega) (by omega)
    obtain ⟨l, hl, el⟩ := nI_of (x := A kM_strength q - A kM_wear q) (Int32.not_lt.mpr (h5 q hq h0))
    rw [es, el] at hle
    have := (nI_leI (by omega) hl).mp hle
    rw [es, el, show (4 : Int32) = nI 4 from rfl, pk_div (by omega) (by omega) (by omega), pk_sub (by omega)]
    exact n_nonneg (by omega)
theorem clamp_v {v : Int32} {m : Nat} (hm : m < 100) : ∃ a, a < m + 1 ∧ mmax 0 (mmin (nI m) v) = nI a := by
  unfold mmin mmax
  by_cases h : v < nI m
  · rw [if_pos h]
    by_cases h2 : 0 < v
    · rw [if_pos h2]
      obtain ⟨j, hj, rfl⟩ := nI_of (x := v) (Int32.not_lt.mpr (Int32.le_of_lt h2))
      have := (nI_ltI hj (by omega)).mp h
      exact ⟨j, by omega, rfl⟩
    · rw [if_neg h2]; exact ⟨0, by omega, rfl⟩
  · rw [if_neg h]
    split
    · exact ⟨m, by omega, rfl⟩
    · exact ⟨0, by omega, rfl⟩
theorem WA_drift {n k w : Nat} {A : Nat → Nat → Int32} {Wt p : Nat → Int32} {wx wy : Int32} {st : Nat → Int32} (hW : WA n k A) (hP : POK n st (Tie n (A kM_strength)) p) : WA n k (driftA n w Wt A p wx wy) := by
  obtain ⟨hn, hk, h1, h2, h3, h4, h5⟩ := hW
  refine ⟨hn, hk, fun j hj => ⟨?_, ?_, (h1 j hj).2.2.1, (h1 j hj).2.2.2⟩, h2, h3, fun a b hab => ?_, h5⟩
  · show ∃ a, a < 30 ∧ (if j < n ∧ ¬ p j < 0 then mvx n w Wt A p wx (p j).toNatClampNeg else A kB_x j) = nI a
    split
    · exact clamp_v (m := 29) (by omega)
    · exact (h1 j hj).1
  · show ∃ a, a < 20 ∧ (if j < n ∧ ¬ p j < 0 then mvy n w Wt A p wy (p j).toNatClampNeg else A kB_y j) = nI a
    split
    · exact clamp_v (m := 19) (by omega)
    · exact (h1 j hj).2.1
  · have e := hP.2.1 a b hab
    obtain ⟨ex, ey⟩ := h4 a b hab
    have ha := hab.1
    have hb := hab.2.1
    refine ⟨?_, ?_⟩
    · show (if a < n ∧ ¬ p a < 0 then mvx n w Wt A p wx (p a).toNatClampNeg else A kB_x a) = if b < n ∧ ¬ p b < 0 then mvx n w Wt A p wx (p b).toNatClampNeg else A kB_x b
      rw [e]
      by_cases q : p b < 0
      · rw [if_neg (fun z => z.2 q), if_neg (fun z => z.2 q), ex]
      · rw [if_pos ⟨ha, q⟩, if_pos ⟨hb, q⟩]
    · show (if a < n ∧ ¬ p a < 0 then mvy n w Wt A p wy (p a).toNatClampNeg else A kB_y a) = if b < n ∧ ¬ p b < 0 then mvy n w Wt A p wy (p b).toNatClampNeg else A kB_y b
      rw [e]
      by_cases q : p b < 0
      · rw [if_neg (fun z => z.2 q), if_neg (fun z => z.2 q), ey]
      · rw [if_pos ⟨ha, q⟩, if_pos ⟨hb, q⟩]
theorem TOK_ext {n : Nat} {st T T' : Nat → Int32} (h : TOK n st T) (e : ∀ q, q < 576 → T' q = T q) : TOK n st T' := fun q hq h0 => by
  rw [e q hq] at h0
  obtain ⟨a, b, h1, h2, h3, h4, h5, h6⟩ := h q hq h0
  exact ⟨a, b, h1, h2, h3, h4, h5, by rw [e q hq]; exact h6⟩
theorem Tie_ext {n : Nat} {T T' : Nat → Int32} (hn : n ≤ 24) (e : ∀ q, q < 576 → T' q = T q) (a b : Nat) : Tie n T' a b ↔ Tie n T a b := by
  unfold Tie
  refine ⟨fun ⟨h1, h2, h3, h4⟩ => ⟨h1, h2, h3, ?_⟩, fun ⟨h1, h2, h3, h4⟩ => ⟨h1, h2, h3, ?_⟩⟩
  · rw [← e _ (pr_lt (by omega) (by omega))]; exact h4
  · rw [e _ (pr_lt (by omega) (by omega))]; exact h4
/-- the state at its places -/
abbrev PN (n : Nat) (A : Nat → Nat → Int32) (p : Nat → Int32) : Prop := POK n (A kB_state) (Tie n (A kM_strength)) p
theorem r_nameA {n k : Nat} {A : Nat → Nat → Int32} {fx tb T U pp p0 : Nat → Int32} (hW : WA n k A) (h : RM n k A fx tb T U pp) : ∃ q, jX7_name (nI n) tb T p0 = some q ∧ PN n A q := by
  obtain ⟨q, hq, hP⟩ := r_name (p := p0) hW.1 (fun j hj => (h.1 j hj).2.2.2.2.1) (TOK_ext hW.2.2.2.2.1 h.2.1)
  exact ⟨q, hq, POK_iff (Tie_ext hW.1 h.2.1) hP⟩
theorem EO_ext {n : Nat} {A : Nat → Nat → Int32} {p q : Nat → Int32} (e : ∀ j, j < n → p j = q j) : EO n A p = EO n A q := E_ext fun j => by
  have hL : ∀ z, LD n A p z = LD n A q z := fun z => fs_congr fun b hb => by rw [e b hb]
  have hF : ∀ z, LF n A p z = LF n A q z := fun z => fs_congr fun b hb => by rw [e b hb]
  unfold EO
  rw [decide_eq_true_eq, decide_eq_true_eq]
  refine ⟨fun ⟨h1, h2⟩ => ⟨h1, ?_⟩, fun ⟨h1, h2⟩ => ⟨h1, ?_⟩⟩
  · rw [← e j h1, ← hL, ← hF]; exact h2
  · rw [e j h1, hL, hF]; exact h2
theorem driftA_ext {n w : Nat} {Wt : Nat → Int32} {A : Nat → Nat → Int32} {p q : Nat → Int32} {wx wy : Int32} (e : ∀ j, j < n → p j = q j) : driftA n w Wt A p wx wy = driftA n w Wt A q wx wy := by
  have hL : ∀ z, LD n A p z = LD n A q z := fun z => fs_congr fun b hb => by rw [e b hb]
  have hF : ∀ z, LF n A p z = LF n A q z := fun z => fs_congr fun b hb => by rw [e b hb]
  have hx : ∀ i, mvx n w Wt A p wx i = mvx n w Wt A q wx i := fun i => by unfold mvx; rw [hL, hF]
  have hy : ∀ i, mvy n w Wt A p wy i = mvy n w Wt A q wy i := fun i => by unfold mvy; rw [hL, hF]
  unfold driftA
  congr 1
  · congr 1
    funext j
    by_cases hj : j < n
    · rw [e j hj, hx]
    · rw [if_neg (fun z => hj z.1), if_neg (fun z => hj z.1)]
  · funext j
    by_cases hj : j < n
    · rw [e j hj, hy]
    · rw [if_neg (fun z => hj z.1), if_neg (fun z => hj z.1)]
theorem POK_ext {n : Nat} {st st' : Nat → Int32} {R R' : Nat → Nat → Prop} {p : Nat → Int32} (hs : ∀ j, j < n → st' j = st j) (h : ∀ a b, R a b ↔ R' a b) (hp : POK n st R p) : POK n st' R' p := by
  have := POK_iff h hp
  exact ⟨fun j hj h0 => this.1 j hj (by rw [← hs j hj]; exact h0), this.2.1, fun j hj h0 => this.2.2 j hj (by rw [← hs j hj]; exact h0)⟩
/-- the hour, step by step -/
def hA1 (n : Nat) (A : Nat → Nat → Int32) (p : Nat → Int32) : Nat → Nat → Int32 := endA (EO n (stepW n A) p) 1 (stepW n A)
def hA2 (n w : Nat) (Wt : Nat → Int32) (A : Nat → Nat → Int32) (p : Nat → Int32) : Nat → Nat → Int32 := wearA Wt w (hA1 n A p)
def hA3 (n w : Nat) (Wt : Nat → Int32) (wx wy : Int32) (A : Nat → Nat → Int32) (p p2 : Nat → Int32) : Nat → Nat → Int32 := driftA n w Wt (hA2 n w Wt A p) p2 wx wy
def hA4 (n w : Nat) (Wt : Nat → Int32) (wx wy : Int32) (A : Nat → Nat → Int32) (p p2 : Nat → Int32) : Nat → Nat → Int32 := endA (ES n (hA3 n w Wt wx wy A p p2)) 2 (hA3 n w Wt wx wy A p p2)
def brkN (n w : Nat) (Wt : Nat → Int32) (A : Nat → Nat → Int32) (p : Nat → Int32) : Int32 := fs (fun q => if brk Wt w (hA1 n A p) q = true then 1 else 0) 576
def nxt (nu : Nat → Int32) (b : Int32) : Nat → Int32 := upd (upd nu 0 (nu 0 + 1)) 2 (nu 2 + b)
section RHourOn
variable {n k w : Nat} {A : Nat → Nat → Int32} {fx tb T U pp p p2 Wt nu pc : Nat → Int32} {wx wy : Int32}
theorem WA_hA1 (hW : WA n k A) : WA n k (hA1 n A p) := WA_end (WA_water hW)
theorem WA_hA2 (hW : WA n k A) (hS : WOK w Wt) : WA n k (hA2 n w Wt A p) := WA_wear (WA_hA1 hW) hS
theorem WA_hA3 (hW : WA n k A) (hS : WOK w Wt) (hp2 : PN n (hA2 n w Wt A p) p2) : WA n k (hA3 n w Wt wx wy A p p2) := WA_drift (WA_hA2 hW hS) hp2
theorem WA_hA4 (hW : WA n k A) (hS : WOK w Wt) (hp2 : PN n (hA2 n w Wt A p) p2) : WA n k (hA4 n w Wt wx wy A p p2) := WA_end (WA_hA3 hW hS hp2)
theorem chk30 {α : Type} {k : Option α} : chk 3 0 k = k := if_pos (by decide)
theorem chk31 {α : Type} {k : Option α} : chk 3 1 k = k := if_pos (by decide)
theorem chk32 {α : Type} {k : Option α} : chk 3 2 k = k := if_pos (by decide)
theorem r_hourOn (hW : WA n k A) (hS : WOK w Wt) (hp : PN n A p) (hp2 : PN n (hA2 n w Wt A p) p2) (h : RM n k A fx tb T U pp) :
    ∃ tb' T' U' pp' pc', jX7_hourOn (nI w) wx wy (nI n) (nI k) Wt fx tb T U pp nu pc = some (brkN n w Wt A p, tb', T', U', pp', nxt nu (brkN n w Wt A p), pc') ∧ RM n k (hA4 n w Wt wx wy A p p2) fx tb' T' U' pp' := by
  have hn := hW.1
  obtain ⟨tb1, e1, H1⟩ := r_water hn h
  obtain ⟨q1, e2, P1⟩ := r_nameA (p0 := pc) (WA_water hW) H1
  have a1 : EO n (stepW n A) q1 = EO n (stepW n A) p := EO_ext (POK_one hn P1 hp)
  obtain ⟨tb2, T2, U2, pp2, e3, H2⟩ := r_over (WA_water hW) P1 H1
  rw [a1] at H2
  obtain ⟨T3, U3, e4, H3⟩ := r_wear (WA_hA1 (p := p) hW) hS H2
  obtain ⟨q2, e5, P2⟩ := r_nameA (p0 := q1) (WA_hA2 (p := p) hW hS) H3
  obtain ⟨tb4, e6, H4⟩ := r_drift (wx := wx) (wy := wy) (WA_hA2 (p := p) hW hS) hS P2 H3
  rw [driftA_ext (POK_one hn P2 hp2)] at H4
  have hW3 := WA_hA3 (wx := wx) (wy := wy) hW hS hp2
  obtain ⟨tb5, T5, U5, pp5, e7, H5⟩ := r_shore hW3 (p := q2) (R := Tie n (hA2 n w Wt A p kM_strength)) P2 (fun i j hc => conn_const (fun x y hxy => (hW3.2.2.2.2.2.1 x y hxy).1) hc) H4
  refine ⟨tb5, T5, U5, pp5, q2, ?_, H5⟩
  unfold jX7_hourOn
  rw [e1, bnd_n, e2, bnd_n, e3, bnd_n]
  dsimp only
  rw [e4, bnd_n]
  dsimp only
  rw [e5, bnd_n, e6, bnd_n, e7, bnd_n, chk30, chk30, chk32, chk32]
  have z0 : (0 : Int32).toNatClampNeg = 0 := by decide
  have z2 : (2 : Int32).toNatClampNeg = 2 := by decide
  unfold rd wr
  rw [z0, z2, upd_b (by decide : (2 : Nat) ≠ 0)]
  rfl
end RHourOn
