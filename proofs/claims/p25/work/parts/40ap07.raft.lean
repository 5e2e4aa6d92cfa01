/-! a raft: what both sides hold, by the class's rows and the table of pairs -/
def ld (A : Nat → Nat → Int32) (b : Nat) : Int32 := A kB_goods b + 7 * A kB_people b
def lf (A : Nat → Nat → Int32) (b : Nat) : Int32 := A kB_lift b * (100 - A kB_water b) / 100
def LD (n : Nat) (A : Nat → Nat → Int32) (p : Nat → Int32) (q : Int32) : Int32 := fs (fun b => if p b = q then ld A b else 0) n
def LF (n : Nat) (A : Nat → Nat → Int32) (p : Nat → Int32) (q : Int32) : Int32 := fs (fun b => if p b = q then lf A b else 0) n
def xN (A : Nat → Nat → Int32) (b : Nat) : Nat := (A kB_x b).toNatClampNeg
def yN (A : Nat → Nat → Int32) (b : Nat) : Nat := (A kB_y b).toNatClampNeg
def strn (Wt : Nat → Int32) (w : Nat) (A : Nat → Nat → Int32) (a b : Nat) : Int32 := gS Wt w 2 (xN A a) (yN A a) + mabs (ld A a - ld A b) / 2
def RM (n k : Nat) (A : Nat → Nat → Int32) (fx tb T U pp : Nat → Int32) : Prop :=
  (∀ j, j < n → fx (3 * j + 1) = A kB_lift j ∧ fx (3 * j + 2) = A kB_leak j ∧ tb (5 * j + 0) = A kB_water j ∧ tb (5 * j + 1) = A kB_goods j ∧ tb (5 * j + 2) = A kB_state j ∧ tb (5 * j + 3) = A kB_x j ∧ tb (5 * j + 4) = A kB_y j)
  ∧ (∀ q, q < 576 → T q = A kM_strength q) ∧ (∀ q, q < 576 → 0 < T q → U q = A kM_wear q) ∧ (∀ c, c < k → pp (2 * c) = A kK_seat c ∧ pp (2 * c + 1) = A kK_state c) ∧ ∀ c, k ≤ c → c < 8 → pp (2 * c + 1) = 0
def WA (n k : Nat) (A : Nat → Nat → Int32) : Prop :=
  n ≤ 24 ∧ k ≤ 8 ∧ (∀ j, j < n → (∃ a, a < 30 ∧ A kB_x j = nI a) ∧ (∃ b, b < 20 ∧ A kB_y j = nI b) ∧ (∃ g, g ≤ 30 ∧ A kB_goods j = nI g) ∧ A kB_people j = fs (fun c => if A kK_seat c = nI j then 1 else 0) k)
  ∧ (∀ c, c < k → A kK_seat c = -1 ∨ ∃ b, b < n ∧ A kK_seat c = nI b ∧ A kB_state b = 0) ∧ TOK n (A kB_state) (A kM_strength)
  ∧ (∀ a b, Tie n (A kM_strength) a b → A kB_x a = A kB_x b ∧ A kB_y a = A kB_y b) ∧ ∀ q, q < 576 → 0 < A kM_strength q → 0 ≤ A kM_strength q - A kM_wear q
theorem r_crewOn {k : Nat} {pp : Nat → Int32} {a : Int32} (hk : k ≤ 8) : jX7_crewOn (nI k) pp a = some (fs (fun c => if pp (2 * c) = a then 1 else 0) k) := by
  refine bnd_i (itF0 (fun f s v => jX7_crewOn_L4 (nI k) pp a f s v) (fs (fun c => if pp (2 * c) = a then 1 else 0)) k (by omega) rfl (fun f => ?_) (fun f j hj => ?_)) rfl
  · simp (disch := omega) only [chk_n, rd_n, wr_n, bnd_n, chkZ_a, chkZ_b, jn_n, sel_a, sel_b, nI_leI, nI_ltI, nI_eq, nI_1, nI_add, upd_a, jX7_crewOn_L4, Nat.le_refl, if_true]
  · rw [jX7_crewOn_L4, if_neg (fun q => by have := (nI_leI (by omega) (by omega)).mp q; omega), l2, pk_mul, chk_n (by omega) (by omega), rd_n (by omega), nI_1]
    by_cases h : pp (2 * j) = a
    · simp only [h, if_true, fs]
    · simp only [h, if_false, fs]
theorem r_crewWith {k : Nat} {pp : Nat → Int32} {a : Int32} (hk : k ≤ 8) : jX7_crewWith (nI k) pp a = some (fs (fun c => if pp (2 * c + 1) = a then 1 else 0) k) := by
  refine bnd_i (itF0 (fun f s v => jX7_crewWith_L4 (nI k) pp a f s v) (fs (fun c => if pp (2 * c + 1) = a then 1 else 0)) k (by omega) rfl (fun f => ?_) (fun f j hj => ?_)) rfl
  · simp (disch := omega) only [chk_n, rd_n, wr_n, bnd_n, chkZ_a, chkZ_b, jn_n, sel_a, sel_b, nI_leI, nI_ltI, nI_eq, nI_1, nI_add, upd_a, jX7_crewWith_L4, Nat.le_refl, if_true]
  · rw [jX7_crewWith_L4, if_neg (fun q => by have := (nI_leI (by omega) (by omega)).mp q; omega), l2, pk_mul, nI_1, chk_n (by omega) (by omega), rd_n (by omega), nI_1]
    by_cases h : pp (2 * j + 1) = a
    · simp only [h, if_true, fs]
    · simp only [h, if_false, fs]
theorem r_withState {n : Nat} {tb : Nat → Int32} {a : Int32} (hn : n ≤ 24) : jX7_withState (nI n) tb a = some (fs (fun j => if tb (5 * j + 2) = a then 1 else 0) n) := by
  refine bnd_i (itF0 (fun f s v => jX7_withState_L4 (nI n) tb a f s v) (fs (fun j => if tb (5 * j + 2) = a then 1 else 0)) n (by omega) rfl (fun f => ?_) (fun f j hj => ?_)) rfl
  · simp (disch := omega) only [chk_n, rd_n, wr_n, bnd_n, chkZ_a, chkZ_b, jn_n, sel_a, sel_b, nI_leI, nI_ltI, nI_eq, nI_1, nI_add, upd_a, jX7_withState_L4, Nat.le_refl, if_true]
  · rw [jX7_withState_L4, if_neg (fun q => by have := (nI_leI (by omega) (by omega)).mp q; omega), l2, r_ba (by omega), bnd_n, nI_1]
    by_cases h : tb (5 * j + 2) = a
    · simp only [h, if_true, fs]
    · simp only [h, if_false, fs]
section RMs
variable {n k w : Nat} {A : Nat → Nat → Int32} {fx tb T U pp Wt : Nat → Int32}
theorem r_lifts (h : RM n k A fx tb T U pp) (hn : n ≤ 24) {b : Nat} (hb : b < n) : jX7_lifts fx tb (nI b) = some (lf A b) := by
  obtain ⟨h1, -, h3, -⟩ := h.1 b hb
  unfold jX7_lifts
  rw [l1, r_fx (by omega), bnd_n, l0, r_ba (by omega), bnd_n, h1, h3]
  rfl
theorem r_crew (h : RM n k A fx tb T U pp) (hk : k ≤ 8) {b : Nat} : jX7_crewOn (nI k) pp (nI b) = some (fs (fun c => if A kK_seat c = nI b then 1 else 0) k) := by
  rw [r_crewOn hk]
  congr 1
  exact fs_congr fun c hc => by rw [(h.2.2.2.1 c hc).1]
theorem r_loadOf (h : RM n k A fx tb T U pp) (hn : n ≤ 24) (hk : k ≤ 8) {b : Nat} (hb : b < n) (hp : A kB_people b = fs (fun c => if A kK_seat c = nI b then 1 else 0) k) : jX7_loadOf (nI k) tb pp (nI b) = some (ld A b) := by
  obtain ⟨-, -, -, h4, -⟩ := h.1 b hb
  unfold jX7_loadOf
  rw [l1, r_ba (by omega), bnd_n, r_crew h hk, bnd_n, h4, ← hp]
  rfl
theorem r_sumLoad (h : RM n k A fx tb T U pp) (hn : n ≤ 24) (hk : k ≤ 8) {p : Nat → Int32} {q : Int32} (hp : ∀ b, b < n → p b = q → A kB_people b = fs (fun c => if A kK_seat c = nI b then 1 else 0) k) : jX7_sumIn (nI n) (nI k) fx tb pp p q 2 = some (LD n A p q) := by
  refine bnd_i (itF0 (fun f s v => jX7_sumIn_L5 (nI n) (nI k) fx tb pp p q 2 f s v) (fs (fun b => if p b = q then ld A b else 0)) n (by omega) rfl (fun f => ?_) (fun f j hj => ?_)) rfl
  · simp (disch := omega) only [chk_n, rd_n, wr_n, bnd_n, chkZ_a, chkZ_b, jn_n, sel_a, sel_b, nI_leI, nI_ltI, nI_eq, nI_1, nI_add, upd_a, jX7_sumIn_L5, Nat.le_refl, if_true]
    rfl
  · rw [jX7_sumIn_L5, if_neg (fun q => by have := (nI_leI (by omega) (by omega)).mp q; omega), chk_n (by omega) (by omega), rd_n (by omega), nI_1]
    by_cases e : p j = q
    · rw [if_pos e, if_neg (by decide), if_neg (by decide), if_pos rfl, r_loadOf h hn hk hj (hp j hj e), bnd_n, fs, if_pos e]
    · rw [if_neg e, fs, if_neg e, Int32.add_zero]
theorem r_sumLift (h : RM n k A fx tb T U pp) (hn : n ≤ 24) {p : Nat → Int32} {q : Int32} : jX7_sumIn (nI n) (nI k) fx tb pp p q 1 = some (LF n A p q) := by
  refine bnd_i (itF0 (fun f s v => jX7_sumIn_L5 (nI n) (nI k) fx tb pp p q 1 f s v) (fs (fun b => if p b = q then lf A b else 0)) n (by omega) rfl (fun f => ?_) (fun f j hj => ?_)) rfl
  · simp (disch := omega) only [chk_n, rd_n, wr_n, bnd_n, chkZ_a, chkZ_b, jn_n, sel_a, sel_b, nI_leI, nI_ltI, nI_eq, nI_1, nI_add, upd_a, jX7_sumIn_L5, Nat.le_refl, if_true]
    rfl
  · rw [jX7_sumIn_L5, if_neg (fun q => by have := (nI_leI (by omega) (by omega)).mp q; omega), chk_n (by omega) (by omega), rd_n (by omega), nI_1]
    by_cases e : p j = q
    · rw [if_pos e, if_neg (by decide), if_pos rfl, r_lifts h hn hj, bnd_n, fs, if_pos e]
    · rw [if_neg e, fs, if_neg e, Int32.add_zero]
theorem r_stress (h : RM n k A fx tb T U pp) (hW : WA n k A) (hS : WOK w Wt) {a b : Nat} (ha : a < n) (hb : b < n) : jX7_stress (nI w) (nI k) Wt tb pp (nI a) (nI b) = some (strn Wt w A a b) := by
  obtain ⟨hn, hk, hw, -⟩ := hW
  obtain ⟨-, -, -, -, -, hx, hy⟩ := h.1 a ha
  obtain ⟨⟨x, hx1, hx2⟩, ⟨y, hy1, hy2⟩, -, pa⟩ := hw a ha
  obtain ⟨-, -, -, pb⟩ := hw b hb
  unfold jX7_stress
  rw [show (3 : Int32) = nI 3 from rfl, r_ba (by omega), bnd_n, show (4 : Int32) = nI 4 from rfl, r_ba (by omega), bnd_n, hx, hy, hx2, hy2, l2, r_seaTold hS hx1 hy1 (by omega), bnd_n, r_loadOf h hn hk ha pa, bnd_n, r_loadOf h hn hk hb pb, bnd_n]
  unfold strn xN yN
  rw [hx2, hy2, clamp_n (by omega), clamp_n (by omega)]
  rfl
end RMs
/-- those of E end -/
def onE (E : Nat → Bool) (s : Int32) : Bool := decide (0 ≤ s) && E s.toNatClampNeg
def endA (E : Nat → Bool) (f : Int32) (A : Nat → Nat → Int32) : Nat → Nat → Int32 := fun key => match key with
  | 17 => fun j => if E j = true ∧ f = 1 then 0 else A 17 j
  | 18 => fun j => if E j = true then 0 else A 18 j
  | 19 => fun j => if E j = true then f else A 19 j
  | 24 => fun c => if onE E (A 24 c) = true then -1 else A 24 c
  | 25 => fun c => if onE E (A 24 c) = true then f else A 25 c
  | 69 => fun q => if E (q / 24) = true ∨ E (q % 24) = true then 0 else A 69 q
  | key => A key
theorem onE_n {E : Nat → Bool} {j : Nat} (h : j < 2 ^ 31) : onE E (nI j) = E j := by
  unfold onE
  rw [decide_eq_true (n_nonneg h), clamp_n h, Bool.true_and]
theorem onE_m1 {E : Nat → Bool} : onE E (-1) = false := by
  unfold onE
  rw [decide_eq_false (by decide), Bool.false_and]
theorem E_ext {E E' : Nat → Bool} (h : ∀ j, E j = true ↔ E' j = true) : E = E' := funext fun j => Bool.eq_iff_iff.mpr (h j)
theorem endA_none {f : Int32} {A : Nat → Nat → Int32} : endA (fun _ => false) f A = A := by
  funext key j
  unfold endA
  have h : ∀ s, onE (fun _ => false) s = false := fun s => by unfold onE; rw [Bool.and_false]
  split <;> simp [h]
theorem r_untie {T U : Nat → Int32} {a b : Nat} (ha : a < 24) (hb : b < 24) : jX7_untie T U (nI a) (nI b) = some (upd T (pr a b) 0, upd U (pr a b) 0) := by
  have := pr_lt ha hb
  unfold jX7_untie
  rw [r_pair ha hb, bnd_n, chk_n this (by omega), bnd_n, chk_n this (by omega), wr_n (by omega), wr_n (by omega)]
theorem r_end45 {n b : Nat} {T U : Nat → Int32} (hn : n ≤ 24) (hb : b < n) : jX7_end_L45 (nI n) (nI b) FU T U 0 = some (fun q => if (q / 24 = b ∧ b < q % 24 ∧ q % 24 < n) ∨ (q % 24 = b ∧ q / 24 < b ∧ q / 24 < n) then 0 else T q, fun q => if (q / 24 = b ∧ b < q % 24 ∧ q % 24 < n) ∨ (q % 24 = b ∧ q / 24 < b ∧ q / 24 < n) then 0 else U q) := by
  have step : ∀ (T : Nat → Int32) (j : Nat), j < n → j ≠ b → upd (fun q => if (q / 24 = b ∧ b < q % 24 ∧ q % 24 < j) ∨ (q % 24 = b ∧ q / 24 < b ∧ q / 24 < j) then 0 else T q) (pr b j) 0 = fun q => if (q / 24 = b ∧ b < q % 24 ∧ q % 24 < j + 1) ∨ (q % 24 = b ∧ q / 24 < b ∧ q / 24 < j + 1) then 0 else T q := fun T j hj hjb => by
    funext q
    have key : (q = pr b j) ↔ ((q / 24 = b ∧ b < q % 24 ∧ q % 24 = j) ∨ (q % 24 = b ∧ q / 24 < b ∧ q / 24 = j)) := by unfold pr; omega
    unfold upd
    dsimp only
    by_cases e : q = pr b j
    · rw [if_pos e, if_pos (by have := key.mp e; omega)]
    · rw [if_neg e]
      have e' := fun z => e (key.mpr z)
      by_cases e2 : (q / 24 = b ∧ b < q % 24 ∧ q % 24 < j) ∨ (q % 24 = b ∧ q / 24 < b ∧ q / 24 < j)
      · rw [if_pos e2, if_pos (by omega)]
      · rw [if_neg e2, if_neg (by omega)]
  have skip : ∀ (T : Nat → Int32), (fun q => if (q / 24 = b ∧ b < q % 24 ∧ q % 24 < b) ∨ (q % 24 = b ∧ q / 24 < b ∧ q / 24 < b) then 0 else T q) = fun q => if (q / 24 = b ∧ b < q % 24 ∧ q % 24 < b + 1) ∨ (q % 24 = b ∧ q / 24 < b ∧ q / 24 < b + 1) then 0 else T q := fun T => by
    funext q
    by_cases e2 : (q / 24 = b ∧ b < q % 24 ∧ q % 24 < b) ∨ (q % 24 = b ∧ q / 24 < b ∧ q / 24 < b)
    · rw [if_pos e2, if_pos (by omega)]
    · rw [if_neg e2, if_neg (by omega)]
  refine itF0 (s0 := (T, U)) (fun f (x : (Nat → Int32) × (Nat → Int32)) v => jX7_end_L45 (nI n) (nI b) f x.1 x.2 v) (fun j => (fun q => if (q / 24 = b ∧ b < q % 24 ∧ q % 24 < j) ∨ (q % 24 = b ∧ q / 24 < b ∧ q / 24 < j) then 0 else T q, fun q => if (q / 24 = b ∧ b < q % 24 ∧ q % 24 < j) ∨ (q % 24 = b ∧ q / 24 < b ∧ q / 24 < j) then 0 else U q)) n (by omega) ?_ (fun f => ?_) (fun f j hj => ?_)
  · simp
  · simp (disch := omega) only [chk_n, rd_n, wr_n, bnd_n, chkZ_a, chkZ_b, jn_n, sel_a, sel_b, nI_leI, nI_ltI, nI_eq, nI_1, nI_add, upd_a, jX7_end_L45, Nat.le_refl, if_true]
  · dsimp only
    rw [jX7_end_L45, if_neg (fun q => by have := (nI_leI (by omega) (by omega)).mp q; omega), nI_1]
    by_cases e : j = b
    · subst e
      rw [if_pos rfl, skip T, skip U]
    · rw [if_neg (fun q => e ((nI_eq (by omega) (by omega)).mp q)), r_untie (by omega) (by omega), bnd_n, step T j hj e, step U j hj e]
theorem r_end76 {k b : Nat} {f : Int32} {pp : Nat → Int32} (hk : k ≤ 8) (hb : b < 24) : jX7_end_L76 (nI k) f (nI b) FU pp 0 = some (fun i => if i / 2 < k ∧ pp (2 * (i / 2)) = nI b then (if i % 2 = 0 then -1 else f) else pp i) := by
  refine itF0 (fun g s v => jX7_end_L76 (nI k) f (nI b) g s v) (fun j i => if i / 2 < j ∧ pp (2 * (i / 2)) = nI b then (if i % 2 = 0 then -1 else f) else pp i) k (by omega) (by simp) (fun g => ?_) (fun g j hj => ?_)
  · simp (disch := omega) only [chk_n, rd_n, wr_n, bnd_n, chkZ_a, chkZ_b, jn_n, sel_a, sel_b, nI_leI, nI_ltI, nI_eq, nI_1, nI_add, upd_a, jX7_end_L76, Nat.le_refl, if_true]
  · rw [jX7_end_L76, if_neg (fun q => by have := (nI_leI (by omega) (by omega)).mp q; omega), l2, pk_mul, nI_1, nI_1, chk_n (by omega) (by omega), rd_n (by omega), chk_n (by omega) (by omega), chk_n (by omega) (by omega), wr_n (by omega), wr_n (by omega)]
    rw [if_neg (by omega : ¬ (2 * j / 2 < j ∧ pp (2 * (2 * j / 2)) = nI b))]
    by_cases e : pp (2 * j) = nI b
    · rw [if_pos e]
      congr 1
      funext i
      unfold upd
      by_cases h1 : i = 2 * j + 1
      · subst h1
        rw [if_pos rfl, if_pos ⟨by omega, by rw [show 2 * ((2 * j + 1) / 2) = 2 * j by omega]; exact e⟩, if_neg (by omega)]
      · rw [if_neg h1]
        by_cases h2 : i = 2 * j
        · subst h2
          rw [if_pos rfl, if_pos ⟨by omega, by rw [show 2 * (2 * j / 2) = 2 * j by omega]; exact e⟩, if_pos (by omega)]
        · rw [if_neg h2]
          simp only [show (i / 2 < j + 1) = (i / 2 < j) from propext ⟨fun q => by omega, fun q => by omega⟩]
    · rw [if_neg e]
      congr 1
      funext i
      by_cases h2 : i / 2 = j
      · rw [if_neg (by omega), if_neg (fun q => e (by rw [← h2]; exact q.2))]
      · simp only [show (i / 2 < j + 1) = (i / 2 < j) from propext ⟨fun q => by omega, fun q => by omega⟩]
def tz (n b : Nat) (T : Nat → Int32) : Nat → Int32 := fun q => if (q / 24 = b ∧ b < q % 24 ∧ q % 24 < n) ∨ (q % 24 = b ∧ q / 24 < b ∧ q / 24 < n) then 0 else T q
def ppz (k b : Nat) (f : Int32) (pp : Nat → Int32) : Nat → Int32 := fun i => if i / 2 < k ∧ pp (2 * (i / 2)) = nI b then (if i % 2 = 0 then -1 else f) else pp i
def tbz (b : Nat) (f : Int32) (tb : Nat → Int32) : Nat → Int32 := if f = 1 then upd (upd tb (5 * b + 2) f) (5 * b + 1) 0 else upd tb (5 * b + 2) f
section End
variable {n k : Nat} {A : Nat → Nat → Int32} {fx tb T U pp : Nat → Int32} {E : Nat → Bool} {f : Int32}
theorem RM_one (hW : WA n k A) (h : RM n k (endA E f A) fx tb T U pp) {b : Nat} (hb : b < n) {tb' : Nat → Int32} (ht2 : tb' = if f = 1 then upd (upd tb (5 * b + 2) f) (5 * b + 1) 0 else upd tb (5 * b + 2) f) :
    RM n k (endA (fun j => E j || decide (j = b)) f A) fx tb' (fun q => if (q / 24 = b ∧ b < q % 24 ∧ q % 24 < n) ∨ (q % 24 = b ∧ q / 24 < b ∧ q / 24 < n) then 0 else T q) (fun q => if (q / 24 = b ∧ b < q % 24 ∧ q % 24 < n) ∨ (q % 24 = b ∧ q / 24 < b ∧ q / 24 < n) then 0 else U q)
      (fun i => if i / 2 < k ∧ pp (2 * (i / 2)) = nI b then (if i % 2 = 0 then -1 else f) else pp i) := by
  obtain ⟨hn, hk, hw, hs, hT, -, -⟩ := hW
  obtain ⟨h1, h2, h3, h4, h5⟩ := h
  refine ⟨fun j hj => ?_, fun q hq => ?_, fun q hq h0 => ?_, fun c hc => ?_, fun c hc hc8 => by dsimp only; rw [if_neg (by omega)]; exact h5 c hc hc8⟩
  · obtain ⟨a1, a2, a3, a4, a5, a6, a7⟩ := h1 j hj
    have t0 : tb' (5 * j + 0) = tb (5 * j + 0) := by
      subst ht2; unfold upd; split <;> (dsimp only; (repeat rw [if_neg (by omega)]))
    have t3 : tb' (5 * j + 3) = tb (5 * j + 3) := by
      subst ht2; unfold upd; split <;> (dsimp only; (repeat rw [if_neg (by omega)]))
    have t4 : tb' (5 * j + 4) = tb (5 * j + 4) := by
      subst ht2; unfold upd; split <;> (dsimp only; (repeat rw [if_neg (by omega)]))
    refine ⟨a1, a2, t0.trans a3, ?_, ?_, t3.trans a6, t4.trans a7⟩
    · show tb' (5 * j + 1) = if (E j || decide (j = b)) = true ∧ f = 1 then 0 else A 17 j
      replace a4 : tb (5 * j + 1) = if E j = true ∧ f = 1 then 0 else A 17 j := a4
      subst ht2
      by_cases hf : f = 1
      · rw [if_pos hf]
        by_cases e : j = b
        · subst e
          rw [upd_a, if_pos ⟨by simp, hf⟩]
        · rw [upd_b (by omega), upd_b (by omega), a4]
          simp [e]
      · rw [if_neg hf, upd_b (by omega), a4, if_neg (fun q => hf q.2), if_neg (fun q => hf q.2)]
    · show tb' (5 * j + 2) = if (E j || decide (j = b)) = true then f else A 19 j
      replace a5 : tb (5 * j + 2) = if E j = true then f else A 19 j := a5
      have : tb' (5 * j + 2) = upd tb (5 * b + 2) f (5 * j + 2) := by
        subst ht2
        split
        · rw [upd_b (by omega)]
        · rfl
      rw [this]
      by_cases e : j = b
      · subst e
        rw [upd_a]; simp
      · rw [upd_b (by omega), a5]
        simp [e]
  · show (if (q / 24 = b ∧ b < q % 24 ∧ q % 24 < n) ∨ (q % 24 = b ∧ q / 24 < b ∧ q / 24 < n) then 0 else T q) = if (E (q / 24) || decide (q / 24 = b)) = true ∨ (E (q % 24) || decide (q % 24 = b)) = true then 0 else A 69 q
    have a := h2 q hq
    replace a : T q = if E (q / 24) = true ∨ E (q % 24) = true then 0 else A 69 q := a
    by_cases e : (q / 24 = b ∧ b < q % 24 ∧ q % 24 < n) ∨ (q % 24 = b ∧ q / 24 < b ∧ q / 24 < n)
    · rw [if_pos e, if_pos]
      rcases e with e | e
      · exact Or.inl (by simp [e.1])
      · exact Or.inr (by simp [e.1])
    · rw [if_neg e, a]
      by_cases e2 : q / 24 = b ∨ q % 24 = b
      · have hz : A 69 q = 0 := by
          by_cases z : A 69 q = 0
          · exact z
          · obtain ⟨c, d, hk2, hcd, hdn, -⟩ := hT q hq z
            omega
        rw [if_pos (c := (E (q / 24) || decide (q / 24 = b)) = true ∨ (E (q % 24) || decide (q % 24 = b)) = true) (e2.imp (fun z => by simp [z]) (fun z => by simp [z])), hz]
        split <;> rfl
      · simp only [not_or] at e2
        simp [e2.1, e2.2]
  · dsimp only at h0 ⊢
    by_cases e : (q / 24 = b ∧ b < q % 24 ∧ q % 24 < n) ∨ (q % 24 = b ∧ q / 24 < b ∧ q / 24 < n)
    · rw [if_pos e] at h0; exact absurd h0 (by decide)
    · rw [if_neg e] at h0 ⊢
      exact h3 q hq h0
  · obtain ⟨a1, a2⟩ := h4 c hc
    show (if 2 * c / 2 < k ∧ pp (2 * (2 * c / 2)) = nI b then (if 2 * c % 2 = 0 then -1 else f) else pp (2 * c)) = (if onE (fun j => E j || decide (j = b)) (A 24 c) = true then -1 else A 24 c) ∧ (if (2 * c + 1) / 2 < k ∧ pp (2 * ((2 * c + 1) / 2)) = nI b then (if (2 * c + 1) % 2 = 0 then -1 else f) else pp (2 * c + 1)) = if onE (fun j => E j || decide (j = b)) (A 24 c) = true then f else A 25 c
    replace a1 : pp (2 * c) = if onE E (A 24 c) = true then -1 else A 24 c := a1
    replace a2 : pp (2 * c + 1) = if onE E (A 24 c) = true then f else A 25 c := a2
    rw [show 2 * c / 2 = c by omega, show (2 * c + 1) / 2 = c by omega, show 2 * c % 2 = 0 by omega, show (2 * c + 1) % 2 = 1 by omega, if_pos rfl, if_neg (by decide : ¬ 1 = 0), a1, a2]
    rcases hs c hc with e | ⟨d, hd, e, -⟩
    · replace e : A 24 c = -1 := e
      rw [e, onE_m1, onE_m1]
      simp only [Bool.false_eq_true, if_false]
      rw [if_neg (fun z => n_m1 (by omega) z.2.symm), if_neg (fun z => n_m1 (by omega) z.2.symm)]
      exact ⟨rfl, rfl⟩
    · replace e : A 24 c = nI d := e
      rw [e, onE_n (by omega), onE_n (by omega)]
      by_cases hE : E d = true
      · simp only [hE, if_true, Bool.true_or]
        rw [if_neg (fun z => n_m1 (by omega) z.2.symm), if_neg (fun z => n_m1 (by omega) z.2.symm)]
        exact ⟨rfl, rfl⟩
      · simp only [hE, Bool.false_eq_true, if_false, Bool.false_or, decide_eq_true_eq]
        by_cases hdb : d = b
        · subst hdb
          rw [if_pos ⟨hc, rfl⟩, if_pos rfl, if_pos ⟨hc, rfl⟩, if_pos rfl]
          exact ⟨rfl, rfl⟩
        · have : ¬ nI d = nI b := fun z => hdb ((nI_eq (by omega) (by omega)).mp z)
          rw [if_neg (fun z => this z.2), if_neg hdb, if_neg (fun z => this z.2), if_neg hdb]
          exact ⟨rfl, rfl⟩
/-- a piece ends -/
theorem r_end {p : Nat → Int32} {P : Int32} (hW : WA n k A) (h : RM n k (endA E f A) fx tb T U pp) :
    ∃ tb' T' U' pp', jX7_end (nI n) (nI k) tb T U pp p P f = some (tb', T', U', pp') ∧ RM n k (endA (fun j => E j || decide (j < n ∧ p j = P)) f A) fx tb' T' U' pp' := by
  have hn := hW.1
  have hk := hW.2.1
  refine (itI0 (s0 := (tb, T, U, pp)) (fun g (x : (Nat → Int32) × (Nat → Int32) × (Nat → Int32) × (Nat → Int32)) v => jX7_end_L2 (nI n) (nI k) p P f g x.1 x.2.1 x.2.2.1 x.2.2.2 v) n
    (fun v x => RM n k (endA (fun j => E j || decide (j < v ∧ p j = P)) f A) fx x.1 x.2.1 x.2.2.1 x.2.2.2) (fun x => RM n k (endA (fun j => E j || decide (j < n ∧ p j = P)) f A) fx x.1 x.2.1 x.2.2.1 x.2.2.2) (by omega) ?_ (fun g x hx => ?_) (fun g v x hv hx => ?_)).elim (fun r ⟨hr, h⟩ => ⟨r.1, r.2.1, r.2.2.1, r.2.2.2, bnd_i hr rfl, h⟩)
  · rw [show (fun j => E j || decide (j < 0 ∧ p j = P)) = E from E_ext fun j => by simp]
    exact h
  · exact ⟨x, by rw [jX7_end_L2, if_pos (Int32.le_refl _)], hx⟩
  · obtain ⟨tb1, T1, U1, pp1⟩ := x
    dsimp only at hx ⊢
    by_cases e : p v = P
    · have e2 : (fun j => E j || decide (j < v + 1 ∧ p j = P)) = fun j => (E j || decide (j < v ∧ p j = P)) || decide (j = v) := E_ext fun j => by
        by_cases q : j = v
        · subst q; simp [e]
        · simp only [p_lts q]; simp [q]
      have H : RM n k (endA (fun j => (E j || decide (j < v ∧ p j = P)) || decide (j = v)) f A) fx (tbz v f tb1) (tz n v T1) (tz n v U1) (ppz k v f pp1) := RM_one hW hx hv rfl
      refine ⟨(tbz v f tb1, tz n v T1, tz n v U1, ppz k v f pp1), by rw [e2]; exact H, ?_⟩
      rw [jX7_end_L2, if_neg (fun q => by have := (nI_leI (by omega) (by omega)).mp q; omega), chk_n (by omega) (by omega), rd_n (by omega), if_pos e, l2, r_set (by omega), bnd_n, jn_n]
      have a1 : jX7_end_L45 (nI n) (nI v) FU T1 U1 0 = some (tz n v T1, tz n v U1) := r_end45 hn hv
      have a2 : jX7_end_L76 (nI k) f (nI v) FU pp1 0 = some (ppz k v f pp1) := r_end76 hk (by omega)
      simp only [a1, a2, bnd_n, nI_1]
      unfold tbz
      by_cases hf : f = 1
      · rw [if_pos hf, if_pos hf, l1, r_set (by omega), bnd_n]
      · rw [if_neg hf, if_neg hf]
    · refine ⟨(tb1, T1, U1, pp1), ?_, by rw [jX7_end_L2, if_neg (fun q => by have := (nI_leI (by omega) (by omega)).mp q; omega), chk_n (by omega) (by omega), rd_n (by omega), if_neg e, nI_1]⟩
      dsimp only
      rw [show (fun j => E j || decide (j < v + 1 ∧ p j = P)) = fun j => E j || decide (j < v ∧ p j = P) from E_ext fun j => by
        by_cases q : j = v
        · subst q; simp [e]
        · simp only [p_lts q]]
      exact hx
end End
