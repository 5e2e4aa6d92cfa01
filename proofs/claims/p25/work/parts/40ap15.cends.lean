/-! the class: weighing, and what ends -/
def CR (n k : Nat) (A : Nat → Nat → Int32) (li lk wa go pe st x y se ks : Nat → Int32) : Prop :=
  (∀ j, j < n → li j = A kB_lift j ∧ lk j = A kB_leak j ∧ wa j = A kB_water j ∧ go j = A kB_goods j ∧ pe j = A kB_people j ∧ st j = A kB_state j ∧ x j = A kB_x j ∧ y j = A kB_y j) ∧ (∀ c, c < k → se c = A kK_seat c ∧ ks c = A kK_state c) ∧ ∀ j, n ≤ j → j < 24 → wa j = 0 ∧ go j = 0 ∧ pe j = 0 ∧ st j = 0
def gl (E : Nat → Bool) (v : Nat) (f : Nat → Int32) (c : Int32) : Nat → Int32 := fun j => if j < v ∧ E j = true then c else f j
theorem gl_0 {E : Nat → Bool} {f : Nat → Int32} {c : Int32} : gl E 0 f c = f := by
  funext j; unfold gl; rw [if_neg (by omega)]
theorem gl_yes {E : Nat → Bool} {v : Nat} {f : Nat → Int32} {c : Int32} (h : E v = true) : upd (gl E v f c) v c = gl E (v + 1) f c := by
  funext j
  unfold upd gl
  by_cases e : j = v
  · subst e; rw [if_pos rfl, if_pos ⟨by omega, h⟩]
  · rw [if_neg e]; simp only [p_lts e]
theorem gl_no {E : Nat → Bool} {v : Nat} {f : Nat → Int32} {c : Int32} (h : E v = false) : gl E v f c = gl E (v + 1) f c := by
  funext j
  unfold gl
  by_cases e : j = v
  · subst e; rw [if_neg (by omega), if_neg (by rw [h]; simp)]
  · simp only [p_lts e]
theorem gl_at {E : Nat → Bool} {v : Nat} {f : Nat → Int32} {c : Int32} : gl E v f c v = f v := if_neg (by omega)
theorem gl_ge {E : Nat → Bool} {v j : Nat} {f : Nat → Int32} {c : Int32} (h : v ≤ j) : gl E v f c j = f j := if_neg (by omega)
theorem gl_lt {E : Nat → Bool} {v j : Nat} {f : Nat → Int32} {c : Int32} (h : j < v) : gl E v f c j = if E j = true then c else f j := by
  unfold gl
  by_cases e : E j = true
  · rw [if_pos ⟨h, e⟩, if_pos e]
  · rw [if_neg (fun z => e z.2), if_neg e]
section CEnds
variable {n k : Nat} {A : Nat → Nat → Int32} {li lk wa go pe st x y se ks p pl pd : Nat → Int32}
theorem cr_lift (h : CR n k A li lk wa go pe st x y se ks) (hn : n ≤ 24) {b : Nat} (hb : b < n) : jX0_liftNow li wa (nI b) = some (lf A b) := by
  obtain ⟨h1, -, h3, -⟩ := h.1 b hb
  rw [c_liftNow (by omega), h1, h3]; rfl
theorem cr_load (h : CR n k A li lk wa go pe st x y se ks) (hn : n ≤ 24) {b : Nat} (hb : b < n) : jX0_loadOf go pe (nI b) = some (ld A b) := by
  obtain ⟨-, -, -, h4, h5, -⟩ := h.1 b hb
  rw [c_loadOf (by omega), h4, h5]; rfl
theorem c_weigh0 (hn : n ≤ 24) : jX3_weighPieces_L2 (nI n) FU pl pd 0 = some (fun i => if i < n then 0 else pl i, fun i => if i < n then 0 else pd i) := by
  refine itF0 (s0 := (pl, pd)) (fun f (s : (Nat → Int32) × (Nat → Int32)) v => jX3_weighPieces_L2 (nI n) f s.1 s.2 v) (fun j => (fun i => if i < j then 0 else pl i, fun i => if i < j then 0 else pd i)) n (by omega) (by simp) (fun f => ?_) (fun f j hj => ?_)
  · simp (disch := omega) only [chk_n, rd_n, wr_n, bnd_n, chkZ_a, chkZ_b, jn_n, sel_a, sel_b, nI_leI, nI_ltI, nI_eq, nI_1, nI_add, upd_a, jX3_weighPieces_L2, Nat.le_refl, if_true]
  · simp (disch := omega) only [chk_n, rd_n, wr_n, bnd_n, chkZ_a, chkZ_b, jn_n, sel_a, sel_b, nI_leI, nI_ltI, nI_eq, nI_1, nI_add, upd_a, jX3_weighPieces_L2, Nat.not_le.mpr hj, if_false]
    have e : ∀ g : Nat → Int32, upd (fun i => if i < j then 0 else g i) j 0 = fun i => if i < j + 1 then 0 else g i := fun g => by
      funext i
      unfold upd
      by_cases hi : i = j
      · subst hi; rw [if_pos rfl, if_pos (by omega)]
      · rw [if_neg hi]; simp only [p_lts hi]
    rw [e, e]
theorem c_weigh {R : Nat → Nat → Prop} (hn : n ≤ 24) (h : CR n k A li lk wa go pe st x y se ks) (hP : POK n (A kB_state) R p) : ∃ pl' pd', jX3_weighPieces pl pd (nI n) li wa go pe p = some (pl', pd') ∧ ∀ i, i < n → pl' i = LF n A p (nI i) ∧ pd' i = LD n A p (nI i) := by
  refine (itI0 (s0 := ((fun i => if i < n then 0 else pl i : Nat → Int32), (fun i => if i < n then 0 else pd i : Nat → Int32))) (fun f (s : (Nat → Int32) × (Nat → Int32)) v => jX3_weighPieces_L35 (nI n) li wa go pe p f s.1 s.2 v) n
    (fun v s => ∀ i, i < n → s.1 i = fs (fun b => if p b = nI i then lf A b else 0) v ∧ s.2 i = fs (fun b => if p b = nI i then ld A b else 0) v) (fun s => ∀ i, i < n → s.1 i = LF n A p (nI i) ∧ s.2 i = LD n A p (nI i)) (by omega) (fun i hi => ⟨if_pos hi, if_pos hi⟩) (fun f s hs => ?_) (fun f v s hv hs => ?_)).elim (fun r ⟨hr, h⟩ => ⟨r.1, r.2, ?_, h⟩)
  · exact ⟨s, by rw [jX3_weighPieces_L35, if_pos (Int32.le_refl _)], hs⟩
  · obtain ⟨s1, s2⟩ := s
    dsimp only at hs ⊢
    rw [jX3_weighPieces_L35, if_neg (fun q => by have := (nI_leI (by omega) (by omega)).mp q; omega), chk_n (by omega) (by omega), rd_n (by omega), nI_1]
    by_cases hst : A kB_state v = 0
    · obtain ⟨i, h1, h2, -⟩ := hP.1 v hv hst
      rw [h2, if_neg (n_neg (by omega)), chk_n (by omega) (by omega), cr_lift h hn hv, bnd_n, chk_n (by omega) (by omega), chk_n (by omega) (by omega), cr_load h hn hv, bnd_n, chk_n (by omega) (by omega), rd_n (by omega), rd_n (by omega), wr_n (by omega), wr_n (by omega)]
      refine ⟨(upd s1 i (s1 i + lf A v), upd s2 i (s2 i + ld A v)), fun a ha => ?_, rfl⟩
      obtain ⟨g1, g2⟩ := hs a ha
      dsimp only
      rw [fs, fs, h2]
      by_cases e : a = i
      · subst e
        rw [upd_a, upd_a, if_pos rfl, if_pos rfl, g1, g2]
        exact ⟨rfl, rfl⟩
      · have : ¬ nI i = nI a := fun z => e ((nI_eq (by omega) (by omega)).mp z).symm
        rw [upd_b e, upd_b e, if_neg this, if_neg this, g1, g2, Int32.add_zero, Int32.add_zero]
        exact ⟨rfl, rfl⟩
    · have e := hP.2.2 v hv hst
      rw [e, if_pos m1_neg]
      refine ⟨(s1, s2), fun a ha => ?_, rfl⟩
      obtain ⟨g1, g2⟩ := hs a ha
      dsimp only
      have : ¬ (-1 : Int32) = nI a := fun z => n_m1 (by omega) z.symm
      rw [fs, fs, e, if_neg this, if_neg this, g1, g2, Int32.add_zero, Int32.add_zero]
      exact ⟨rfl, rfl⟩
  · unfold jX3_weighPieces
    rw [c_weigh0 hn, bnd_n]
    exact bnd_i hr rfl
/-- those of E end, one by one -/
theorem c_loseL {R : Nat → Nat → Prop} (hn : n ≤ 24) (hP : POK n (A kB_state) R p) (hw : ∀ i, i < n → pl i = LF n A p (nI i) ∧ pd i = LD n A p (nI i)) :
    ∃ any, jX3_loseOverloaded_L8 pl pd (nI n) FU go pe st p 0 0 = some (gl (EO n A p) n go 0, gl (EO n A p) n pe 0, gl (EO n A p) n st 1, gl (EO n A p) n p (-1), any) ∧ (any = 0 → ∀ j, j < n → EO n A p j = false) := by
  refine (itI0 (s0 := (go, pe, st, p, (0 : Int32))) (fun f (s : (Nat → Int32) × (Nat → Int32) × (Nat → Int32) × (Nat → Int32) × Int32) v => jX3_loseOverloaded_L8 pl pd (nI n) f s.1 s.2.1 s.2.2.1 s.2.2.2.1 s.2.2.2.2 v) n
    (fun v s => ∃ any, s = (gl (EO n A p) v go 0, gl (EO n A p) v pe 0, gl (EO n A p) v st 1, gl (EO n A p) v p (-1), any) ∧ (any = 0 → ∀ j, j < v → EO n A p j = false)) (fun s => ∃ any, s = (gl (EO n A p) n go 0, gl (EO n A p) n pe 0, gl (EO n A p) n st 1, gl (EO n A p) n p (-1), any) ∧ (any = 0 → ∀ j, j < n → EO n A p j = false)) (by omega) ⟨0, by rw [gl_0, gl_0, gl_0, gl_0], fun _ j hj => by omega⟩ (fun f s hs => ⟨s, by rw [jX3_loseOverloaded_L8, if_pos (Int32.le_refl _)], hs⟩) (fun f v s hv hs => ?_)).elim (fun r ⟨hr, any, e, h⟩ => ⟨any, by rw [← e]; exact hr, h⟩)
  obtain ⟨any, rfl, hz⟩ := hs
  dsimp only
  rw [jX3_loseOverloaded_L8, if_neg (fun q => by have := (nI_leI (by omega) (by omega)).mp q; omega), chk_n (by omega) (by omega), rd_n (by omega), nI_1, gl_at]
  have skip : EO n A p v = false → ∃ s', (∃ any, s' = (gl (EO n A p) (v + 1) go 0, gl (EO n A p) (v + 1) pe 0, gl (EO n A p) (v + 1) st 1, gl (EO n A p) (v + 1) p (-1), any) ∧ (any = 0 → ∀ j, j < v + 1 → EO n A p j = false)) ∧ jX3_loseOverloaded_L8 pl pd (nI n) f (gl (EO n A p) v go 0) (gl (EO n A p) v pe 0) (gl (EO n A p) v st 1) (gl (EO n A p) v p (-1)) any (nI (v + 1)) = jX3_loseOverloaded_L8 pl pd (nI n) f s'.1 s'.2.1 s'.2.2.1 s'.2.2.2.1 s'.2.2.2.2 (nI (v + 1)) := fun e => by
    refine ⟨_, ⟨any, rfl, fun h0 j hj => ?_⟩, by rw [gl_no e, gl_no e, gl_no e, gl_no e]⟩
    by_cases q : j = v
    · rw [q]; exact e
    · exact hz h0 j (by omega)
  by_cases hst : A kB_state v = 0
  · obtain ⟨i, h1, h2, -⟩ := hP.1 v hv hst
    obtain ⟨w1, w2⟩ := hw i (by omega)
    rw [h2, if_neg (n_neg (by omega)), chk_n (by omega) (by omega), chk_n (by omega) (by omega), rd_n (by omega), rd_n (by omega), w1, w2]
    by_cases c : LD n A p (nI i) ≤ LF n A p (nI i)
    · rw [if_pos c]
      exact skip (decide_eq_false fun z => z.2.2 (by rw [h2]; exact c))
    · rw [if_neg c, c_end (by omega), bnd_n, if_pos rfl]
      have e : EO n A p v = true := decide_eq_true ⟨hv, by rw [h2]; exact n_neg (by omega), by rw [h2]; exact c⟩
      dsimp only
      rw [gl_yes e, gl_yes e, gl_yes e, gl_yes e]
      exact ⟨_, ⟨1, rfl, fun h0 => absurd h0 (by decide)⟩, rfl⟩
  · have e := hP.2.2 v hv hst
    rw [e, if_pos m1_neg]
    exact skip (decide_eq_false fun z => z.2.1 (by rw [e]; exact m1_neg))
theorem c_shoreL (hn : n ≤ 24) (h : CR n k A li lk wa go pe st x y se ks) :
    ∃ any, jX3_saveAshore_L4 (nI n) x FU go pe st p 0 0 = some (go, gl (ES n A) n pe 0, gl (ES n A) n st 2, gl (ES n A) n p (-1), any) ∧ (any = 0 → ∀ j, j < n → ES n A j = false) := by
  refine (itI0 (s0 := (go, pe, st, p, (0 : Int32))) (fun f (s : (Nat → Int32) × (Nat → Int32) × (Nat → Int32) × (Nat → Int32) × Int32) v => jX3_saveAshore_L4 (nI n) x f s.1 s.2.1 s.2.2.1 s.2.2.2.1 s.2.2.2.2 v) n
    (fun v s => ∃ any, s = (go, gl (ES n A) v pe 0, gl (ES n A) v st 2, gl (ES n A) v p (-1), any) ∧ (any = 0 → ∀ j, j < v → ES n A j = false)) (fun s => ∃ any, s = (go, gl (ES n A) n pe 0, gl (ES n A) n st 2, gl (ES n A) n p (-1), any) ∧ (any = 0 → ∀ j, j < n → ES n A j = false)) (by omega) ⟨0, by rw [gl_0, gl_0, gl_0], fun _ j hj => by omega⟩ (fun f s hs => ⟨s, by rw [jX3_saveAshore_L4, if_pos (Int32.le_refl _)], hs⟩) (fun f v s hv hs => ?_)).elim (fun r ⟨hr, any, e, h⟩ => ⟨any, by rw [← e]; exact hr, h⟩)
  obtain ⟨any, rfl, hz⟩ := hs
  obtain ⟨-, -, -, -, -, s6, s7, -⟩ := h.1 v hv
  dsimp only
  rw [jX3_saveAshore_L4, if_neg (fun q => by have := (nI_leI (by omega) (by omega)).mp q; omega), c_floats hn hv, bnd_n, gl_at, nI_1]
  have skip : ES n A v = false → ∃ s', (∃ any, s' = (go, gl (ES n A) (v + 1) pe 0, gl (ES n A) (v + 1) st 2, gl (ES n A) (v + 1) p (-1), any) ∧ (any = 0 → ∀ j, j < v + 1 → ES n A j = false)) ∧ jX3_saveAshore_L4 (nI n) x f go (gl (ES n A) v pe 0) (gl (ES n A) v st 2) (gl (ES n A) v p (-1)) any (nI (v + 1)) = jX3_saveAshore_L4 (nI n) x f s'.1 s'.2.1 s'.2.2.1 s'.2.2.2.1 s'.2.2.2.2 (nI (v + 1)) := fun e => by
    refine ⟨_, ⟨any, rfl, fun h0 j hj => ?_⟩, by rw [gl_no e, gl_no e, gl_no e]⟩
    by_cases q : j = v
    · rw [q]; exact e
    · exact hz h0 j (by omega)
  by_cases hst : st v = 0
  · rw [if_pos hst, if_neg one_ne, chk_n (by omega) (by omega), rd_n (by omega)]
    by_cases c : x v = 29
    · rw [if_pos c, c_end (by omega), bnd_n, if_neg (by decide)]
      have e : ES n A v = true := decide_eq_true ⟨hv, by rw [← s6]; exact hst, by rw [← s7]; exact c⟩
      dsimp only
      rw [gl_yes e, gl_yes e, gl_yes e]
      exact ⟨_, ⟨1, rfl, fun h0 => absurd h0 (by decide)⟩, rfl⟩
    · rw [if_neg c]
      exact skip (decide_eq_false fun z => c (by rw [s7]; exact z.2.2))
  · rw [if_neg hst, if_pos rfl]
    exact skip (decide_eq_false fun z => hst (by rw [s6]; exact z.2.1))
/-- the crew of those that ended, and their lashings -/
theorem c_share {E : Nat → Bool} {f : Int32} (hn : n ≤ 24) (hk : k ≤ 8) (hf : f ≠ 0) (h : CR n k A li lk wa go pe st x y se ks) (hs : ∀ c, c < k → A kK_seat c = -1 ∨ ∃ b, b < n ∧ A kK_seat c = nI b ∧ A kB_state b = 0) :
    ∃ se' ks', jX1_shareFate (nI k) se ks (nI n) (gl E n st f) = some (se', ks') ∧ ∀ c, c < k → se' c = endA E f A kK_seat c ∧ ks' c = endA E f A kK_state c := by
  refine (itI0 (s0 := (se, ks)) (fun g (s : (Nat → Int32) × (Nat → Int32)) v => jX1_shareFate_L2 (nI k) (nI n) (gl E n st f) g s.1 s.2 v) k
    (fun v s => (∀ c, c < k → c < v → s.1 c = endA E f A kK_seat c ∧ s.2 c = endA E f A kK_state c) ∧ ∀ c, c < k → v ≤ c → s.1 c = A kK_seat c ∧ s.2 c = A kK_state c) (fun s => ∀ c, c < k → s.1 c = endA E f A kK_seat c ∧ s.2 c = endA E f A kK_state c) (by omega) ⟨fun c _ hc => by omega, fun c hc _ => h.2.1 c hc⟩ (fun g s hs => ⟨s, by rw [jX1_shareFate_L2, if_pos (Int32.le_refl _)], fun c hc => hs.1 c hc hc⟩) (fun g v s hv hI => ?_)).elim (fun r ⟨hr, h⟩ => ⟨r.1, r.2, bnd_i hr rfl, h⟩)
  obtain ⟨s1, s2⟩ := s
  obtain ⟨I1, I2⟩ := hI
  obtain ⟨v1, v2⟩ := I2 v hv (Nat.le_refl _)
  dsimp only at I1 I2 v1 v2 ⊢
  have skip : endA E f A kK_seat v = A kK_seat v → endA E f A kK_state v = A kK_state v → ∃ s' : (Nat → Int32) × (Nat → Int32), ((∀ c, c < k → c < v + 1 → s'.1 c = endA E f A kK_seat c ∧ s'.2 c = endA E f A kK_state c) ∧ ∀ c, c < k → v + 1 ≤ c → s'.1 c = A kK_seat c ∧ s'.2 c = A kK_state c) ∧ jX1_shareFate_L2 (nI k) (nI n) (gl E n st f) g s1 s2 (nI (v + 1)) = jX1_shareFate_L2 (nI k) (nI n) (gl E n st f) g s'.1 s'.2 (nI (v + 1)) := fun e1 e2 => by
    refine ⟨(s1, s2), ⟨fun c hc hcv => ?_, fun c hc hcv => I2 c hc (by omega)⟩, rfl⟩
    by_cases q : c = v
    · subst q
      dsimp only
      rw [v1, v2, e1, e2]
      exact ⟨rfl, rfl⟩
    · exact I1 c hc (by omega)
  have es : endA E f A kK_seat v = if onE E (A kK_seat v) = true then -1 else A kK_seat v := rfl
  have ek : endA E f A kK_state v = if onE E (A kK_seat v) = true then f else A kK_state v := rfl
  rw [jX1_shareFate_L2, if_neg (fun q => by have := (nI_leI (by omega) (by omega)).mp q; omega), chk_n (by omega) (by omega), rd_n (by omega), v1, nI_1]
  rcases hs v hv with e | ⟨b, hb, e, hb0⟩
  · rw [e, onE_m1] at es ek
    rw [e, c_has_m1, bnd_n, if_pos rfl]
    exact skip (by rw [es, e]; rfl) (by rw [ek]; rfl)
  · rw [e, onE_n (by omega)] at es ek
    obtain ⟨-, -, -, -, -, s6, -⟩ := h.1 b hb
    rw [e, c_has (by omega) (by omega), if_pos hb, bnd_n, if_neg one_ne, chk_n (by omega) (by omega), rd_n (by omega), gl_lt hb]
    by_cases q : E b = true
    · rw [if_pos q] at es ek
      rw [if_pos q, if_neg hf, chk_n (by omega) (by omega), chk_n (by omega) (by omega), chk_n (by omega) (by omega), wr_n (by omega), wr_n (by omega)]
      refine ⟨(upd s1 v (-1), upd s2 v f), ⟨fun c hc hcv => ?_, fun c hc hcv => ?_⟩, rfl⟩
      · dsimp only
        by_cases z : c = v
        · subst z
          rw [upd_a, upd_a, es, ek]; exact ⟨rfl, rfl⟩
        · rw [upd_b z, upd_b z]; exact I1 c hc (by omega)
      · dsimp only
        rw [upd_b (by omega), upd_b (by omega)]; exact I2 c hc (by omega)
    · rw [if_neg q] at es ek
      rw [if_neg q, s6, hb0, if_pos rfl]
      exact skip (by rw [es, e]) ek
theorem c_leave {E : Nat → Bool} {f : Int32} {m : Nat} {qf qs qt qu : Nat → Int32} {κ : Nat → Nat} (hW : WA n k A) (hf : f ≠ 0) (h : CR n k A li lk wa go pe st x y se ks) (hE : ∀ a b, Tie n (A kM_strength) a b → E a = E b) (Q : QOK m qf qs qt qu κ (A kM_strength) (A kM_wear)) :
    ∃ se' ks' m' qf' qs' qt' qu' κ', jX3_leaveEnded (nI n) (gl E n st f) (nI k) se ks (nI m) qf qs qt qu = some (se', ks', nI m', qf', qs', qt', qu') ∧ (∀ c, c < k → se' c = endA E f A kK_seat c ∧ ks' c = endA E f A kK_state c) ∧ m' ≤ m ∧ QOK m' qf' qs' qt' qu' κ' (endA E f A kM_strength) (endA E f A kM_wear) := by
  obtain ⟨hn, hk, -, hs, hT, -, -⟩ := hW
  obtain ⟨se', ks', e1, h1⟩ := c_share (E := E) hn hk hf h hs
  have hpair : ∀ i, i < m → ∃ a b, κ i = 24 * a + b ∧ a < b ∧ b < n ∧ A kB_state a = 0 ∧ 0 < A kM_strength (κ i) := fun i hi => by
    have := Q.2.1.1 i hi
    have h0 := of_decide_eq_true this.2
    obtain ⟨a, b, h1, h2, h3, h4, -⟩ := hT _ this.1 (i_pos_ne h0)
    exact ⟨a, b, h1, h2, h3, h4, h0⟩
  have hm := Q.1
  have e2 : jX3_leaveEnded_L13 (nI n) (gl E n st f) (nI m) qf FU qt 0 = some (fun i => if i < m ∧ E (κ i / 24) = true then 0 else qt i) := by
    refine itF0 (fun g s v => jX3_leaveEnded_L13 (nI n) (gl E n st f) (nI m) qf g s v) (fun v i => if i < v ∧ E (κ i / 24) = true then 0 else qt i) m (by omega) (by simp) (fun g => ?_) (fun g v hv => ?_)
    · rw [jX3_leaveEnded_L13, if_pos (Int32.le_refl _)]
    · obtain ⟨a, b, hk2, hab, hbn, h0a, -⟩ := hpair v hv
      have ha : κ v / 24 = a := by omega
      have fa : qf v = nI a := by rw [(Q.2.2 v hv).1, ha]
      obtain ⟨-, -, -, -, -, s6, -⟩ := h.1 a (by omega)
      rw [jX3_leaveEnded_L13, if_neg (fun q => by have := (nI_leI (by omega) (by omega)).mp q; omega), chk_n (by omega) (by omega), rd_n (by omega), fa, c_floats hn (by omega), bnd_n, gl_lt (by omega), nI_1]
      by_cases q : E a = true
      · rw [if_pos q, if_neg hf, if_pos rfl, c_undo (by omega), bnd_n]
        congr 1
        funext i
        unfold upd
        dsimp only
        by_cases z : i = v
        · subst z
          rw [if_pos rfl, if_pos ⟨by omega, by rw [ha]; exact q⟩]
        · rw [if_neg z]; simp only [p_lts z]
      · rw [if_neg q, s6, h0a, if_pos rfl, if_neg one_ne]
        congr 1
        funext i
        by_cases z : i = v
        · subst z
          rw [if_neg (fun y => q (by rw [← ha]; exact y.2)), if_neg (fun y => q (by rw [← ha]; exact y.2))]
        · simp only [p_lts z]
  obtain ⟨m', qf', qs', qt', qu', κ', e3, hm', Q'⟩ := QOK_sweep (T' := endA E f A kM_strength) (U' := endA E f A kM_wear) (t1 := fun i => if i < m ∧ E (κ i / 24) = true then 0 else qt i) (u1 := qu) Q (fun i hi => by
    obtain ⟨a, b, hk2, hab, hbn, h0a, h0⟩ := hpair i hi
    have ha : κ i / 24 = a := by omega
    have hb : κ i % 24 = b := by omega
    have hEE : E a = E b := hE a b ⟨by omega, hbn, by omega, by rw [pr_of hab, ← hk2]; exact h0⟩
    show _ = if E (κ i / 24) = true ∨ E (κ i % 24) = true then 0 else A 69 (κ i)
    rw [ha, hb, hEE]
    by_cases q : E b = true
    · rw [if_pos ⟨hi, q⟩, if_pos (Or.inl q)]
    · rw [if_neg (fun z => q z.2), if_neg (fun z => q (z.elim id id))]
      exact (Q.2.2 i hi).2.2.1) (fun i hi _ => (Q.2.2 i hi).2.2.2) (fun q hq h0 => by
    have e : endA E f A kM_strength q = if E (q / 24) = true ∨ E (q % 24) = true then 0 else A 69 q := rfl
    rw [e] at h0
    by_cases z : E (q / 24) = true ∨ E (q % 24) = true
    · rw [if_pos z] at h0; exact absurd h0 (by decide)
    · rw [if_neg z] at h0; exact h0)
  refine ⟨se', ks', m', qf', qs', qt', qu', κ', ?_, h1, hm', Q'⟩
  unfold jX3_leaveEnded
  rw [e1, bnd_n, e2, bnd_n, e3, bnd_n]
end CEnds
