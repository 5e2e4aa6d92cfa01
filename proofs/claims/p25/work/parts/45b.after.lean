/-! the law's hour: what is told behind it -/
/-- an hour from S to Sp, of which B lashings broke */ -/
def HF (n k w : Nat) (S Sp : Nat → Nat → Int32) (B : Int32) : Prop :=
  (∀ j, j < n → S 19 j ≠ 0 → Sp 19 j = S 19 j ∧ Sp 17 j = S 17 j ∧ Sp 20 j = S 20 j)
  ∧ (∀ j, j < n → S 19 j = 0 → Sp 16 j = mmin 100 (S 16 j + S 15 j))
  ∧ (∀ j, j < n → Sp 19 j = 0 → Sp 20 j ≠ 29)
  ∧ (∀ a b, a < b → b < n → 0 < Sp 69 (24 * a + b) → 0 < S 69 (24 * a + b) ∧ Sp 69 (24 * a + b) = S 69 (24 * a + b) ∧ Sp 70 (24 * a + b) = S 70 (24 * a + b) + strn (S 62) w S a b / 4 ∧ strn (S 62) w S a b ≤ S 69 (24 * a + b) - S 70 (24 * a + b))
  ∧ (∀ a b, a < b → b < n → 0 < S 69 (24 * a + b) → ¬ 0 < Sp 69 (24 * a + b) → (Sp 19 a = 0 ∨ Sp 19 b = 0) → brk (S 62) w (gA1 n S) (24 * a + b) = true ∧ ¬ strn (S 62) w S a b ≤ S 69 (24 * a + b) - S 70 (24 * a + b))
  ∧ (∀ j, j < n → deg n (S 69) j = 0 → Sp 19 j = 0 → ld Sp j ≤ lf Sp j)
  ∧ (∀ c, c < k → S 25 c ≠ 0 → Sp 25 c = S 25 c)
  ∧ B = fs (fun q => if brk (S 62) w (gA1 n S) q = true then 1 else 0) 576
section After
variable {S Sp S1 A' : Nat → Nat → Int32} {n k w m r m2 : Nat} {κ κ2 : Nat → Nat} {B : Int32}
theorem HF_of (hB : RelB S n k w m r κ) (h : HR n w S A' B) (e : AE n k A' Sp) : HF n k w S Sp B := by
  obtain ⟨-, -, -, hW, -, hS, hP, -, -, -, hK⟩ := hB
  have hn := hW.1
  obtain ⟨p2, hp2, rfl, hBr⟩ := h
  have e14 : ∀ j, j < n → Sp 14 j = gA4 n w S p2 14 j := fun j hj => (e.1 j hj).1
  have e16 : ∀ j, j < n → Sp 16 j = gA4 n w S p2 16 j := fun j hj => (e.1 j hj).2.2.1
  have e17 : ∀ j, j < n → Sp 17 j = gA4 n w S p2 17 j := fun j hj => (e.1 j hj).2.2.2.1
  have e18 : ∀ j, j < n → Sp 18 j = gA4 n w S p2 18 j := fun j hj => (e.1 j hj).2.2.2.2.1
  have e19 : ∀ j, j < n → Sp 19 j = gA4 n w S p2 19 j := fun j hj => (e.1 j hj).2.2.2.2.2.1
  have e20 : ∀ j, j < n → Sp 20 j = gA4 n w S p2 20 j := fun j hj => (e.1 j hj).2.2.2.2.2.2.1
  have e69 : ∀ q, q < 576 → Sp 69 q = gA4 n w S p2 69 q := e.2.2.1
  have e70 : ∀ q, q < 576 → 0 < gA4 n w S p2 69 q → Sp 70 q = gA4 n w S p2 70 q := e.2.2.2
  refine ⟨fun j hj h0 => ?_, fun j hj h0 => ?_, fun j hj h0 => ?_, fun a b hab hb h0 => ?_, fun a b hab hb h0 h4 hf => ?_, fun j hj hd h0 => ?_, fun c hc h0 => ?_, hBr⟩
  · rw [e19 j hj, e17 j hj, e20 j hj]
    exact g_ended hW hP hp2 hj h0
  · rw [e16 j hj, g_wa4, if_pos ⟨hj, h0⟩]
  · rw [e19 j hj] at h0
    rw [e20 j hj]
    exact (g_float hj h0).2.2.2
  · have hq : 24 * a + b < 576 := by omega
    rw [e69 _ hq] at h0
    obtain ⟨k0, k1, k2, k3⟩ := g_kept h0
    rw [show (24 * a + b) / 24 = a by omega, show (24 * a + b) % 24 = b by omega] at k2 k3
    exact ⟨k0, (e69 _ hq).trans k1, (e70 _ hq h0).trans k2, k3⟩
  · rw [e69 _ (by omega)] at h4
    rw [e19 a (by omega), e19 b hb] at hf
    exact g_gone hW hS.1 hP hp2 hab hb h0 h4 hf
  · rw [e19 j hj] at h0
    have := g_alone hW hP hj hd h0
    unfold ld lf at this ⊢
    show Sp 17 j + 7 * Sp 18 j ≤ Sp 14 j * (100 - Sp 16 j) / 100
    rw [e14 j hj, e16 j hj, e17 j hj, e18 j hj]
    exact this
  · have : Sp 25 c = gA4 n w S p2 25 c := (e.2.1 c hc).2
    rw [this]
    exact g_crew hK hc h0
theorem lb7 (hB : RelB S n k w m r κ) (e : EK S S1) {a : Nat} (ha : a < n) : ∃ S2, op_barrel S1 (nI a) 7 = some (S 22 a, S2) ∧ EK S S2 := lq_barrel hB e ha (what := 7) (by omega)
theorem lb8 (hB : RelB S n k w m r κ) (e : EK S S1) {a : Nat} (ha : a < n) : ∃ S2, op_barrel S1 (nI a) 8 = some (S 20 a, S2) ∧ EK S S2 := lq_barrel hB e ha (what := 8) (by omega)
theorem lb9 (hB : RelB S n k w m r κ) (e : EK S S1) {a : Nat} (ha : a < n) : ∃ S2, op_barrel S1 (nI a) 9 = some (S 21 a, S2) ∧ EK S S2 := lq_barrel hB e ha (what := 9) (by omega)
theorem lb6 (hB : RelB S n k w m r κ) (e : EK S S1) {a : Nat} (ha : a < n) : ∃ S2, op_barrel S1 (nI a) 6 = some (S 19 a, S2) ∧ EK S S2 := lq_barrel hB e ha (what := 6) (by omega)
theorem lb5 (hB : RelB S n k w m r κ) (e : EK S S1) {a : Nat} (ha : a < n) : ∃ S2, op_barrel S1 (nI a) 5 = some (S 17 a, S2) ∧ EK S S2 := lq_barrel hB e ha (what := 5) (by omega)
theorem lb4 (hB : RelB S n k w m r κ) (e : EK S S1) {a : Nat} (ha : a < n) : ∃ S2, op_barrel S1 (nI a) 4 = some (S 16 a, S2) ∧ EK S S2 := lq_barrel hB e ha (what := 4) (by omega)
theorem lb2 (hB : RelB S n k w m r κ) (e : EK S S1) {a : Nat} (ha : a < n) : ∃ S2, op_barrel S1 (nI a) 2 = some (S 14 a, S2) ∧ EK S S2 := lq_barrel hB e ha (what := 2) (by omega)
theorem lb10 (hB : RelB S n k w m r κ) (e : EK S S1) {a : Nat} (ha : a < n) : ∃ S2, op_barrel S1 (nI a) 10 = some (nI (deg n (S 69) a), S2) ∧ EK S S2 := lq_barrel hB e ha (what := 10) (by omega)
theorem lb11 (hB : RelB S n k w m r κ) (e : EK S S1) {a : Nat} (ha : a < n) : ∃ S2, op_barrel S1 (nI a) 11 = some (S 14 a * (100 - S 16 a) / 100, S2) ∧ EK S S2 := lq_barrel hB e ha (what := 11) (by omega)
theorem ll0 (hB : RelB S n k w m r κ) (e : EK S S1) {a b : Nat} (ha : a < n) (hb : b < n) : ∃ S2, op_lashing S1 (nI a) (nI b) 0 = some ((if 0 < S 69 (pr a b) then S 69 (pr a b) else 0), S2) ∧ EK S S2 := lq_lashing hB e ha hb (what := 0) (by omega)
theorem ll1 (hB : RelB S n k w m r κ) (e : EK S S1) {a b : Nat} (ha : a < n) (hb : b < n) : ∃ S2, op_lashing S1 (nI a) (nI b) 1 = some ((if 0 < S 69 (pr a b) then S 70 (pr a b) else 0), S2) ∧ EK S S2 := lq_lashing hB e ha hb (what := 1) (by omega)
theorem y_same {τ : Type} (hB : RelB Sp n k w m r κ) (e : EK Sp S1) {a b : Nat} (ha : a < n) (hb : b < n) : ∃ X, EK Sp X ∧ ∀ kk : Int32 × (Nat → Nat → Int32) → Option τ, jn (fun (x908 : (Nat → Nat → Int32)) => kk (0, x908)) (fun k908 => (if Sp 19 a = 0 then bnd (op_barrel S1 (nI a) 7) (fun r_235 => bnd (op_barrel r_235.2 (nI b) 7) (fun r_240 => (if r_235.1 = r_240.1 then kk (1, r_240.2) else k908 r_240.2))) else k908 S1)) = kk ((if Sp 19 a = 0 ∧ Sp 22 a = Sp 22 b then 1 else 0), X) := by
  by_cases h : Sp 19 a = 0
  · obtain ⟨S2, f1, g1⟩ := lb7 hB e ha
    obtain ⟨S3, f2, g2⟩ := lb7 hB g1 hb
    refine ⟨S3, g2, fun kk => ?_⟩
    rw [jn_n, if_pos h, f1, bnd_n]
    dsimp only
    rw [f2, bnd_n]
    dsimp only
    by_cases z : Sp 22 a = Sp 22 b
    · rw [if_pos z, if_pos ⟨h, z⟩]
    · rw [if_neg z, if_neg (fun y => z y.2)]
  · refine ⟨S1, e, fun kk => ?_⟩
    rw [jn_n, if_neg h, if_neg (fun y => h y.1)]
theorem y_place {τ : Type} (hB : RelB Sp n k w m r κ) (e : EK Sp S1) {a b : Nat} (ha : a < n) (hb : b < n) : ∃ X, EK Sp X ∧ ∀ kk : (Nat → Nat → Int32) → Option τ, (if (if Sp 19 a = 0 ∧ Sp 22 a = Sp 22 b then (1 : Int32) else 0) = 0 then kk S1 else bnd (op_barrel S1 (nI a) 8) (fun r_245 => bnd (op_barrel r_245.2 (nI b) 8) (fun r_250 => (if r_245.1 = r_250.1 then bnd (op_barrel r_250.2 (nI a) 9) (fun r_255 => bnd (op_barrel r_255.2 (nI b) 9) (fun r_260 => (if r_255.1 = r_260.1 then kk r_260.2 else none))) else none)))) = kk X := by
  by_cases h : Sp 19 a = 0 ∧ Sp 22 a = Sp 22 b
  · obtain ⟨-, -, -, hW, -, -, hP, -⟩ := id hB
    have hn := hW.1
    obtain ⟨i, i1, i2, i3⟩ := hP.1 a ha h.1
    obtain ⟨-, -, -, -, i4⟩ := POK_self hn hP hb (h.2.symm.trans i2) (by omega)
    have cx : Sp 20 a = Sp 20 b := (conn_const (p := Sp 20) (fun x y t => (hW.2.2.2.2.2.1 x y t).1) i3).symm.trans (conn_const (p := Sp 20) (fun x y t => (hW.2.2.2.2.2.1 x y t).1) i4)
    have cy : Sp 21 a = Sp 21 b := (conn_const (p := Sp 21) (fun x y t => (hW.2.2.2.2.2.1 x y t).2) i3).symm.trans (conn_const (p := Sp 21) (fun x y t => (hW.2.2.2.2.2.1 x y t).2) i4)
    obtain ⟨S2, f1, g1⟩ := lb8 hB e ha
    obtain ⟨S3, f2, g2⟩ := lb8 hB g1 hb
    obtain ⟨S4, f3, g3⟩ := lb9 hB g2 ha
    obtain ⟨S5, f4, g4⟩ := lb9 hB g3 hb
    refine ⟨S5, g4, fun kk => ?_⟩
    rw [if_pos h, if_neg one_ne, f1, bnd_n]
    dsimp only
    rw [f2, bnd_n]
    dsimp only
    rw [if_pos cx, f3, bnd_n]
    dsimp only
    rw [f4, bnd_n]
    dsimp only
    rw [if_pos cy]
  · exact ⟨S1, e, fun kk => by rw [if_neg h, if_pos rfl]⟩
/-- lashings that stay, lashings that broke, of a barrel to later ones -/
def kq (Sp : Nat → Nat → Int32) (a y : Nat) : Nat := if a < y ∧ 0 < Sp 69 (24 * a + y) then 1 else 0
def gq (S Sp : Nat → Nat → Int32) (a y : Nat) : Nat := if a < y ∧ 0 < S 69 (24 * a + y) ∧ ¬ 0 < Sp 69 (24 * a + y) ∧ (Sp 19 a = 0 ∨ Sp 19 y = 0) then 1 else 0
theorem y_inner (hB : RelB S n k w m r κ) (hF : HF n k w S Sp B) (hB2 : RelB Sp n k w m2 r κ2) (e : EK Sp S1) {a : Nat} (ha : a < n) {x1 x2 x3 : Nat → Nat → Int32} (hx : ∀ i, i < n → x1 a i = lv w S a i 1 ∧ x2 a i = lv w S a i 0 ∧ x3 a i = lv w S a i 2) {g0 k0 : Nat} :
    ∃ q, jL_law_L874 a (Sp 19 a) x1 x2 x3 (n - (a + 1)) (a + 1) S1 (nI g0) (nI k0) = some q ∧ (EK Sp q.1 ∧ q.2.1 = nI (g0 + ns (gq S Sp a) n) ∧ q.2.2 = nI (k0 + ns (kq Sp a) n)) := by
  have hW : WA n k S := hB.2.2.2.1
  have hn := hW.1
  obtain ⟨-, -, -, F4, F5, -⟩ := hF
  refine itN (fun f j (s : (Nat → Nat → Int32) × Int32 × Int32) => jL_law_L874 a (Sp 19 a) x1 x2 x3 f j s.1 s.2.1 s.2.2) n (fun j s => a < j ∧ EK Sp s.1 ∧ s.2.1 = nI (g0 + ns (gq S Sp a) j) ∧ s.2.2 = nI (k0 + ns (kq Sp a) j)) _ (fun s hs => ⟨s, rfl, hs.2⟩) (fun f b s hb hs => Or.inr ?_) (n - (a + 1)) (a + 1) (S1, nI g0, nI k0) (by omega) ⟨Nat.lt_succ_self a, e, ?_, ?_⟩
  rotate_left
  · dsimp only
    rw [ns_zero (g := gq S Sp a) (fun y hy => if_neg (fun z => by omega))]
    rfl
  · dsimp only
    rw [ns_zero (g := kq Sp a) (fun y hy => if_neg (fun z => by omega))]
    rfl
  obtain ⟨Sx, v18, v19⟩ := s
  obtain ⟨hab, h1, h2, h3⟩ := hs
  dsimp only at h1 h2 h3 ⊢
  have hp : pr a b = 24 * a + b := pr_of hab
  obtain ⟨y1, y2, y3⟩ := hx b hb
  have rb : ∀ g : Nat → Int32, rd g (nI b) = g b := fun g => rd_n (by omega)
  obtain ⟨X1, q1, e1⟩ := y_same (τ := (Nat → Nat → Int32) × Int32 × Int32) hB2 h1 ha hb
  obtain ⟨X2, q2, e2⟩ := y_place (τ := (Nat → Nat → Int32) × Int32 × Int32) hB2 q1 ha hb
  rw [jL_law_L874]
  refine ex_jn e1 ?_
  dsimp only
  refine ex_jn e2 ?_
  rw [rb, rb, rb, y1, y2, y3]
  have l0 : lv w S a b 0 = if 0 < S 69 (24 * a + b) then S 69 (24 * a + b) else 0 := by rw [← hp]; rfl
  have l1 : lv w S a b 1 = if 0 < S 69 (24 * a + b) then S 70 (24 * a + b) else 0 := by rw [← hp]; rfl
  have l2 : lv w S a b 2 = if 0 < S 69 (24 * a + b) then strn (S 62) w S a b else 0 := by rw [← hp]; rfl
  obtain ⟨X3, f3, q3⟩ := ll0 hB2 q2 ha hb
  rw [hp] at f3
  by_cases h0 : 0 < S 69 (24 * a + b)
  · rw [l0, l1, l2, if_pos h0, if_pos h0, if_pos h0, if_neg (show ¬ S 69 (24 * a + b) = 0 from i_pos_ne h0), f3, bnd_n]
    dsimp only
    by_cases h4 : 0 < Sp 69 (24 * a + b)
    · obtain ⟨k1, k2, k3, k4⟩ := F4 a b hab hb h4
      obtain ⟨X4, f4, q4⟩ := ll0 hB2 q3 ha hb
      obtain ⟨X5, f5, q5⟩ := ll1 hB2 q4 ha hb
      rw [hp, if_pos h4] at f4 f5
      rw [if_pos h4, if_neg (Int32.not_le.mpr h4), f4, bnd_n]
      dsimp only
      rw [if_pos k2, f5, bnd_n]
      dsimp only
      rw [if_pos k3, if_pos k4]
      refine ⟨(X5, v18, v19 + 1), ⟨by omega, q5, ?_, ?_⟩, rfl⟩
      · dsimp only
        rw [h2, ns, show gq S Sp a b = 0 from if_neg (fun z => z.2.2.1 h4)]
        rfl
      · dsimp only
        rw [h3, nI_1, ns, show kq Sp a b = 1 from if_pos ⟨hab, h4⟩]
        rfl
    · rw [if_neg h4, if_pos (Int32.le_refl _)]
      have hk0 : kq Sp a b = 0 := if_neg (fun z => h4 z.2)
      by_cases hf : Sp 19 a = 0 ∨ Sp 19 b = 0
      · obtain ⟨-, k5⟩ := F5 a b hab hb h0 h4 hf
        have st : ∃ X4, EK Sp X4 ∧ ∀ kk : (Nat → Nat → Int32) → Option ((Nat → Nat → Int32) × Int32 × Int32), (if Sp 19 a = 0 then kk X3 else bnd (op_barrel X3 (nI b) 6) (fun r_271 => (if r_271.1 = 0 then kk r_271.2 else jL_law_L874 a (Sp 19 a) x1 x2 x3 f (b + 1) r_271.2 v18 v19))) = kk X4 := by
          by_cases z : Sp 19 a = 0
          · exact ⟨X3, q3, fun kk => if_pos z⟩
          · obtain ⟨X4, f4, q4⟩ := lb6 hB2 q3 hb
            refine ⟨X4, q4, fun kk => ?_⟩
            rw [if_neg z, f4, bnd_n]
            dsimp only
            rw [if_pos (hf.resolve_left z)]
        obtain ⟨X4, q4, st⟩ := st
        refine ⟨(X4, v18 + 1, v19), ⟨by omega, q4, ?_, ?_⟩, (jn_to st).trans ?_⟩
        · dsimp only
          rw [h2, nI_1, ns, show gq S Sp a b = 1 from if_pos ⟨hab, h0, h4, hf⟩]
          rfl
        · dsimp only
          rw [h3, ns, hk0]
          rfl
        · dsimp only
          rw [if_pos (Int32.not_le.mp k5)]
      · have hg0 : gq S Sp a b = 0 := if_neg (fun z => hf z.2.2.2)
        obtain ⟨X4, f4, q4⟩ := lb6 hB2 q3 hb
        refine ⟨(X4, v18, v19), ⟨by omega, q4, ?_, ?_⟩, ?_⟩
        · dsimp only
          rw [h2, ns, hg0]
          rfl
        · dsimp only
          rw [h3, ns, hk0]
          rfl
        · rw [jn_n, if_neg (fun z => hf (Or.inl z)), f4, bnd_n]
          dsimp only
          rw [if_neg (fun z => hf (Or.inr z))]
  · have h4 : ¬ 0 < Sp 69 (24 * a + b) := fun z => h0 (F4 a b hab hb z).1
    rw [l0, if_neg h0, if_pos rfl, f3, bnd_n]
    dsimp only
    rw [if_neg h4, if_pos rfl]
    refine ⟨(X3, v18, v19), ⟨by omega, q3, ?_, ?_⟩, rfl⟩
    · dsimp only
      rw [h2, ns, show gq S Sp a b = 0 from if_neg (fun z => h0 z.2.1)]
      rfl
    · dsimp only
      rw [h3, ns, show kq Sp a b = 0 from if_neg (fun z => h4 z.2)]
      rfl
end After
