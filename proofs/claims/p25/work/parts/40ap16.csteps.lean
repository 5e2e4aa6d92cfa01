/-! the class: the steps of an hour -/
theorem E_none {n : Nat} {E : Nat → Bool} (h1 : ∀ j, E j = true → j < n) (h2 : ∀ j, j < n → E j = false) : E = fun _ => false := E_ext fun j => by
  refine ⟨fun h => ?_, fun h => absurd h (by decide)⟩
  rw [h2 j (h1 j h)] at h; exact h
theorem gl_none {v : Nat} {f : Nat → Int32} {c : Int32} : gl (fun _ => false) v f c = f := by
  funext j; unfold gl; rw [if_neg (fun z => Bool.false_ne_true z.2)]
theorem fs_sub {g h : Nat → Int32} : ∀ {n : Nat}, fs (fun j => g j - h j) n = fs g n - fs h n
  | 0 => by rw [fs, fs, fs]; decide
  | n + 1 => by rw [fs, fs, fs, fs_sub]; grind
theorem fs_cnt0 {P : Nat → Prop} [∀ j, Decidable (P j)] : ∀ {k : Nat}, k < 2 ^ 31 → fs (fun j => if P j then 1 else 0) k = 0 → ∀ j, j < k → ¬ P j
  | 0, _, _, j, hj => by omega
  | k + 1, hk, h, j, hj => by
    obtain ⟨c, hc, e⟩ := fs_cnt (P := P) k
    rw [fs, e] at h
    by_cases q : P k
    · rw [if_pos q, nI_1] at h
      exact absurd ((nI_eq (b := 0) (by omega) (by omega)).mp h) (by omega)
    · rw [if_neg q, Int32.add_zero] at h
      by_cases z : j = k
      · rw [z]; exact q
      · exact fs_cnt0 (by omega) (e.trans h) j (by omega)
section CSteps
variable {n k m w : Nat} {A : Nat → Nat → Int32} {li lk wa go pe st x y se ks p pl pd qf qs qt qu dx dy wv C Wt : Nat → Int32} {κ : Nat → Nat} {br wx wy : Int32}
theorem CR_end {E : Nat → Bool} {f : Int32} (h : CR n k A li lk wa go pe st x y se ks) {go' se' ks' : Nat → Int32} (hg : ∀ j, j < n → go' j = if E j = true ∧ f = 1 then 0 else A kB_goods j) (hs : ∀ c, c < k → se' c = endA E f A kK_seat c ∧ ks' c = endA E f A kK_state c) (hg' : ∀ j, n ≤ j → go' j = go j) :
    CR n k (endA E f A) li lk wa go' (gl E n pe 0) (gl E n st f) x y se' ks' := by
  refine ⟨fun j hj => ?_, hs, fun j hj hj' => ?_⟩
  rotate_left
  · obtain ⟨z1, z2, z3, z4⟩ := h.2.2 j hj hj'
    rw [hg' j hj, gl_ge hj, gl_ge hj]; exact ⟨z1, z2, z3, z4⟩
  obtain ⟨s1, s2, s3, s4, s5, s6, s7, s8⟩ := h.1 j hj
  refine ⟨s1, s2, s3, hg j hj, ?_, ?_, s7, s8⟩
  · rw [gl_lt hj, s5]; rfl
  · rw [gl_lt hj, s6]; rfl
theorem PN_end {E : Nat → Bool} {f : Int32} (hW : WA n k A) (hP : PN n A p) (hE : ∀ a b, Tie n (A kM_strength) a b → E a = E b) (hf : f ≠ 0) : PN n (endA E f A) (gl E n p (-1)) := by
  have := POK_end (f := f) hW.1 hP hE hf
  refine ⟨fun j hj h0 => ?_, fun a b hab => ?_, fun j hj h0 => ?_⟩
  · rw [gl_lt hj]; exact this.1 j hj h0
  · rw [gl_lt hab.1, gl_lt hab.2.1]; exact this.2.1 a b hab
  · rw [gl_lt hj]; exact this.2.2 j hj h0
theorem EO_tie (hn : n ≤ 24) (hP : PN n A p) (a b : Nat) (hab : Tie n (A kM_strength) a b) : EO n A p a = EO n A p b := by
  have e := hP.2.1 a b hab
  have ha := hab.1
  have hb := hab.2.1
  unfold EO
  rw [e]
  exact Bool.eq_iff_iff.mpr (by rw [decide_eq_true_eq, decide_eq_true_eq]; exact ⟨fun z => ⟨hb, z.2⟩, fun z => ⟨ha, z.2⟩⟩)
theorem ES_tie (hW : WA n k A) (a b : Nat) (hab : Tie n (A kM_strength) a b) : ES n A a = ES n A b := by
  have hn := hW.1
  have e := (hW.2.2.2.2.2.1 a b hab).1
  have ha := hab.1
  have hb := hab.2.1
  obtain ⟨c, d, h1, h2, h3, h4, h5, -⟩ := hW.2.2.2.2.1 (pr a b) (pr_lt (by omega) (by omega)) (i_pos_ne hab.2.2.2)
  have hs : A kB_state a = 0 ∧ A kB_state b = 0 := by
    rcases pr_cases h1 h2 (by omega) (by omega) (by omega) with ⟨rfl, rfl⟩ | ⟨rfl, rfl⟩
    · exact ⟨h4, h5⟩
    · exact ⟨h5, h4⟩
  unfold ES
  rw [e, hs.1, hs.2]
  exact Bool.eq_iff_iff.mpr (by rw [decide_eq_true_eq, decide_eq_true_eq]; exact ⟨fun z => ⟨hb, z.2⟩, fun z => ⟨ha, z.2⟩⟩)
theorem c_lose (hW : WA n k A) (h : CR n k A li lk wa go pe st x y se ks) (hP : PN n A p) (Q : QOK m qf qs qt qu κ (A kM_strength) (A kM_wear)) :
    ∃ pl' pd' go' pe' st' p' se' ks' m' qf' qs' qt' qu' κ', jX3_loseOverloaded pl pd (nI n) li wa go pe st p (nI k) se ks (nI m) qf qs qt qu = some (pl', pd', go', pe', st', p', se', ks', nI m', qf', qs', qt', qu')
      ∧ CR n k (endA (EO n A p) 1 A) li lk wa go' pe' st' x y se' ks' ∧ PN n (endA (EO n A p) 1 A) p' ∧ m' ≤ m ∧ QOK m' qf' qs' qt' qu' κ' (endA (EO n A p) 1 A kM_strength) (endA (EO n A p) 1 A kM_wear) := by
  have hn := hW.1
  obtain ⟨pl', pd', e1, hw⟩ := c_weigh (pl := pl) (pd := pd) hn h hP
  obtain ⟨any, e2, hz⟩ := c_loseL (go := go) (pe := pe) (st := st) hn hP hw
  have hEn : ∀ j, EO n A p j = true → j < n := fun j hj => (of_decide_eq_true hj).1
  unfold jX3_loseOverloaded
  rw [e1, bnd_n]
  dsimp only
  rw [e2, bnd_n]
  dsimp only
  by_cases ha : any = 0
  · have hE := E_none hEn (hz ha)
    rw [if_pos ha, hE, gl_none, gl_none, gl_none, gl_none, endA_none]
    exact ⟨_, _, _, _, _, _, _, _, m, _, _, _, _, κ, rfl, h, hP, Nat.le_refl _, Q⟩
  · rw [if_neg ha]
    obtain ⟨se', ks', m', qf', qs', qt', qu', κ', e3, h3, hm', Q'⟩ := c_leave (E := EO n A p) (f := 1) hW (by decide) h (EO_tie hn hP) Q
    rw [e3, bnd_n]
    refine ⟨_, _, _, _, _, _, _, _, m', _, _, _, _, κ', rfl, CR_end h (fun j hj => ?_) h3 (fun j hj => gl_ge hj), PN_end hW hP (EO_tie hn hP) (by decide), hm', Q'⟩
    obtain ⟨-, -, -, s4, -⟩ := h.1 j hj
    rw [gl_lt hj, s4]
    simp
theorem c_shore (hW : WA n k A) (h : CR n k A li lk wa go pe st x y se ks) (hP : PN n A p) (Q : QOK m qf qs qt qu κ (A kM_strength) (A kM_wear)) :
    ∃ go' pe' st' p' se' ks' m' qf' qs' qt' qu' κ', jX3_saveAshore (nI n) go pe st x p (nI k) se ks (nI m) qf qs qt qu = some (go', pe', st', p', se', ks', nI m', qf', qs', qt', qu')
      ∧ CR n k (endA (ES n A) 2 A) li lk wa go' pe' st' x y se' ks' ∧ PN n (endA (ES n A) 2 A) p' ∧ m' ≤ m ∧ QOK m' qf' qs' qt' qu' κ' (endA (ES n A) 2 A kM_strength) (endA (ES n A) 2 A kM_wear) := by
  have hn := hW.1
  obtain ⟨any, e2, hz⟩ := c_shoreL (p := p) hn h
  have hEn : ∀ j, ES n A j = true → j < n := fun j hj => (of_decide_eq_true hj).1
  unfold jX3_saveAshore
  rw [e2, bnd_n]
  dsimp only
  by_cases ha : any = 0
  · have hE := E_none hEn (hz ha)
    rw [if_pos ha, hE, gl_none, gl_none, gl_none, endA_none]
    exact ⟨_, _, _, _, _, _, m, _, _, _, _, κ, rfl, h, hP, Nat.le_refl _, Q⟩
  · rw [if_neg ha]
    obtain ⟨se', ks', m', qf', qs', qt', qu', κ', e3, h3, hm', Q'⟩ := c_leave (E := ES n A) (f := 2) hW (by decide) h (ES_tie hW) Q
    rw [e3, bnd_n]
    refine ⟨_, _, _, _, _, _, m', _, _, _, _, κ', rfl, CR_end h (fun j hj => ?_) h3 (fun _ _ => rfl), PN_end hW hP (ES_tie hW) (by decide), hm', Q'⟩
    obtain ⟨-, -, -, s4, -⟩ := h.1 j hj
    rw [s4, if_neg (fun z => absurd z.2 (by decide))]
theorem c_stress (hW : WA n k A) (hS : SOK w dx dy wv C Wt) (h : CR n k A li lk wa go pe st x y se ks) {i a b : Nat} (hi : i < 48) (ha : a < n) (hb : b < n) (fa : qf i = nI a) (sb : qs i = nI b) : jX3_stress go pe x y qf qs (nI w) wv C (nI i) = some (strn Wt w A a b) := by
  have hn := hW.1
  obtain ⟨⟨x0, hx1, hx2⟩, ⟨y0, hy1, hy2⟩, -, -⟩ := hW.2.2.1 a ha
  obtain ⟨-, -, -, -, -, -, s7, s8⟩ := h.1 a ha
  unfold jX3_stress
  rw [chk_n (by omega) (by omega), chk_n (by omega) (by omega), rd_n (by omega), rd_n (by omega), fa, sb, chk_n (by omega) (by omega), chk_n (by omega) (by omega), rd_n (by omega), rd_n (by omega), s7, s8, hx2, hy2, c_at hx1 hy1, bnd_n, c_waveOf hS hx1 hy1, bnd_n, cr_load h hn ha, bnd_n, cr_load h hn hb, bnd_n]
  unfold strn xN yN
  rw [hx2, hy2, clamp_n (by omega), clamp_n (by omega)]
theorem c_wear (hW : WA n k A) (hS : SOK w dx dy wv C Wt) (h : CR n k A li lk wa go pe st x y se ks) (hP : PN n A p) (Q : QOK m qf qs qt qu κ (A kM_strength) (A kM_wear)) :
    ∃ p' m' qf' qs' qt' qu' κ', jX3_wearLashings br (nI n) go pe st x y p (nI m) qf qs qt qu (nI w) wv C = some (br + fs (fun q => if brk Wt w A q = true then 1 else 0) 576, p', nI m', qf', qs', qt', qu')
      ∧ PN n (wearA Wt w A) p' ∧ m' ≤ m ∧ QOK m' qf' qs' qt' qu' κ' (wearA Wt w A kM_strength) (wearA Wt w A kM_wear) := by
  have hn := hW.1
  have hm := Q.1
  have hpair : ∀ i, i < m → ∃ a b, κ i = 24 * a + b ∧ κ i / 24 = a ∧ κ i % 24 = b ∧ a < b ∧ b < n ∧ qf i = nI a ∧ qs i = nI b ∧ 0 < A kM_strength (κ i) := fun i hi => by
    have := Q.2.1.1 i hi
    have h0 := of_decide_eq_true this.2
    obtain ⟨a, b, h1, h2, h3, -⟩ := hW.2.2.2.2.1 _ this.1 (i_pos_ne h0)
    have d1 : κ i / 24 = a := by omega
    have d2 : κ i % 24 = b := by omega
    obtain ⟨r1, r2, -, -⟩ := Q.2.2 i hi
    exact ⟨a, b, h1, d1, d2, h2, h3, by rw [r1, d1], by rw [r2, d2], h0⟩
  have e1 : jX3_wearLashings_L10 go pe x y qf qs (nI w) wv C (nI m) FU qt qu 0 = some (fun i => if i < m ∧ brk Wt w A (κ i) = true then 0 else qt i, fun i => if i < m ∧ brk Wt w A (κ i) = false then qu i + strn Wt w A (κ i / 24) (κ i % 24) / 4 else qu i) := by
    refine itF0 (s0 := (qt, qu)) (fun g (s : (Nat → Int32) × (Nat → Int32)) v => jX3_wearLashings_L10 go pe x y qf qs (nI w) wv C (nI m) g s.1 s.2 v) (fun v => (fun i => if i < v ∧ brk Wt w A (κ i) = true then 0 else qt i, fun i => if i < v ∧ brk Wt w A (κ i) = false then qu i + strn Wt w A (κ i / 24) (κ i % 24) / 4 else qu i)) m (by omega) (by simp) (fun g => ?_) (fun g v hv => ?_)
    · dsimp only
      rw [jX3_wearLashings_L10, if_pos (Int32.le_refl _)]
    · obtain ⟨a, b, hk2, d1, d2, hab, hbn, fa, sb, h0⟩ := hpair v hv
      obtain ⟨-, -, r3, r4⟩ := Q.2.2 v hv
      dsimp only
      rw [jX3_wearLashings_L10, if_neg (fun q => by have := (nI_leI (by omega) (by omega)).mp q; omega), c_stress hW hS h (by omega) (by omega) hbn fa sb, bnd_n, c_left (by omega), bnd_n, if_neg (by omega : ¬ (v < v ∧ brk Wt w A (κ v) = true)), if_neg (by omega : ¬ (v < v ∧ brk Wt w A (κ v) = false)), r3, r4, nI_1]
      by_cases hb : strn Wt w A a b ≤ A kM_strength (κ v) - A kM_wear (κ v)
      · have nb : brk Wt w A (κ v) = false := decide_eq_false fun z => z.2 (by rw [d1, d2]; exact hb)
        rw [if_pos hb, chk_n (by omega) (by omega), chk_n (by omega) (by omega), wr_n (by omega), rd_n (by omega), if_neg (by omega : ¬ (v < v ∧ brk Wt w A (κ v) = false))]
        congr 1
        · funext i
          by_cases z : i = v
          · subst z
            rw [if_neg (by omega), if_neg (by rw [nb]; simp)]
          · simp only [p_lts z]
        · funext i
          unfold upd
          by_cases z : i = v
          · subst z
            rw [if_pos rfl, if_pos ⟨by omega, nb⟩, d1, d2]
          · rw [if_neg z]; simp only [p_lts z]
      · have nb : brk Wt w A (κ v) = true := decide_eq_true ⟨h0, by rw [d1, d2]; exact hb⟩
        rw [if_neg hb, c_undo (by omega), bnd_n]
        congr 1
        · funext i
          unfold upd
          dsimp only
          by_cases z : i = v
          · subst z
            rw [if_pos rfl, if_pos ⟨by omega, nb⟩]
          · rw [if_neg z]; simp only [p_lts z]
        · funext i
          by_cases z : i = v
          · subst z
            rw [if_neg (by omega), if_neg (by rw [nb]; simp)]
          · simp only [p_lts z]
  obtain ⟨m', qf', qs', qt', qu', κ', e3, hm', Q'⟩ := QOK_sweep (T' := wearA Wt w A kM_strength) (U' := wearA Wt w A kM_wear) (t1 := fun i => if i < m ∧ brk Wt w A (κ i) = true then 0 else qt i) (u1 := fun i => if i < m ∧ brk Wt w A (κ i) = false then qu i + strn Wt w A (κ i / 24) (κ i % 24) / 4 else qu i) Q (fun i hi => by
      rw [wearA_T, ← (Q.2.2 i hi).2.2.1]
      simp only [hi, true_and]) (fun i hi h0 => by
      rw [wearA_U, ← (Q.2.2 i hi).2.2.2]
      rw [wearA_T] at h0
      by_cases z : brk Wt w A (κ i) = true
      · rw [if_pos z] at h0; exact absurd h0 (by decide)
      · rw [if_pos ⟨hi, Bool.eq_false_iff.mpr z⟩]) (fun q hq h0 => by
      rw [wearA_T] at h0
      by_cases z : brk Wt w A q = true
      · rw [if_pos z] at h0; exact absurd h0 (by decide)
      · rw [if_neg z] at h0; exact h0)
  have hcnt : fs (fun q => if brk Wt w A q = true then 1 else 0) 576 = nI m - nI m' := by
    rw [enu_cnt Q.2.1, enu_cnt Q'.2.1, ← fs_sub]
    refine fs_congr fun q hq => ?_
    rw [wearA_T]
    by_cases z : brk Wt w A q = true
    · rw [if_pos z, if_pos z, if_pos (decide_eq_true (of_decide_eq_true z).1), if_neg (by decide)]; decide
    · rw [if_neg z, if_neg z]
      exact (Int32.sub_self _).symm
  have hTT : TOK n st (wearA Wt w A kM_strength) := fun q hq h0 => by
    obtain ⟨a, b, h1, h2, h3, h4, h5, h6⟩ := (WA_wear hW hS.1).2.2.2.2.1 q hq h0
    obtain ⟨-, -, -, -, -, sa, -⟩ := h.1 a (by omega)
    obtain ⟨-, -, -, -, -, sb, -⟩ := h.1 b (by omega)
    exact ⟨a, b, h1, h2, h3, sa.trans h4, sb.trans h5, h6⟩
  unfold jX3_wearLashings
  rw [e1, bnd_n]
  dsimp only
  rw [e3, bnd_n]
  dsimp only
  by_cases c : nI m ≤ nI m'
  · have em : m' = m := by have := (nI_leI (by omega) (by omega)).mp c; omega
    subst em
    rw [if_pos c]
    have h0 : fs (fun q => if brk Wt w A q = true then 1 else 0) 576 = 0 := by rw [hcnt]; exact Int32.sub_self _
    rw [h0, Int32.add_zero]
    refine ⟨p, m', _, _, _, _, κ', rfl, POK_iff (fun a b => (Tie_ext hn (fun q hq => ?_) a b).symm) hP, Nat.le_refl _, Q'⟩
    rw [wearA_T, if_neg (fs_cnt0 (P := fun q => brk Wt w A q = true) (by decide) h0 q hq)]
  · rw [if_neg c]
    obtain ⟨p', e4, P'⟩ := c_findPieces (p := p) hn Q' hTT
    rw [e4, bnd_n, hcnt]
    refine ⟨p', m', _, _, _, _, κ', rfl, POK_ext (fun j hj => ?_) (fun a b => Iff.rfl) P', hm', Q'⟩
    exact (h.1 j hj).2.2.2.2.2.1.symm
theorem c_drift (hW : WA n k A) (hS : SOK w dx dy wv C Wt) (h : CR n k A li lk wa go pe st x y se ks) (hP : PN n A p) :
    ∃ pl' pd' x' y', jX3_drift pl pd (nI n) li wa go pe x y p (nI w) wx wy dx dy C = some (pl', pd', x', y') ∧ ∀ j, j < n → x' j = driftA n w Wt A p wx wy kB_x j ∧ y' j = driftA n w Wt A p wx wy kB_y j := by
  have hn := hW.1
  obtain ⟨pl', pd', e1, hw⟩ := c_weigh (pl := pl) (pd := pd) hn h hP
  refine (itI0 (s0 := (x, y)) (fun f (s : (Nat → Int32) × (Nat → Int32)) v => jX3_drift_L6 pl' pd' (nI n) p (nI w) wx wy dx dy C f s.1 s.2 v) n
    (fun v s => ∀ j, j < n → (j < v → s.1 j = driftA n w Wt A p wx wy kB_x j ∧ s.2 j = driftA n w Wt A p wx wy kB_y j) ∧ (v ≤ j → s.1 j = A kB_x j ∧ s.2 j = A kB_y j)) (fun s => ∀ j, j < n → s.1 j = driftA n w Wt A p wx wy kB_x j ∧ s.2 j = driftA n w Wt A p wx wy kB_y j) (by omega) (fun j hj => ⟨fun z => by omega, fun _ => (h.1 j hj).2.2.2.2.2.2⟩) (fun f s hs => ⟨s, by rw [jX3_drift_L6, if_pos (Int32.le_refl _)], fun j hj => (hs j hj).1 hj⟩) (fun f v s hv hI => ?_)).elim (fun r ⟨hr, h⟩ => ⟨pl', pd', r.1, r.2, ?_, h⟩)
  · obtain ⟨s1, s2⟩ := s
    obtain ⟨v1, v2⟩ := (hI v hv).2 (Nat.le_refl _)
    dsimp only at hI v1 v2 ⊢
    have ex : driftA n w Wt A p wx wy kB_x v = if v < n ∧ ¬ p v < 0 then mvx n w Wt A p wx (p v).toNatClampNeg else A kB_x v := rfl
    have ey : driftA n w Wt A p wx wy kB_y v = if v < n ∧ ¬ p v < 0 then mvy n w Wt A p wy (p v).toNatClampNeg else A kB_y v := rfl
    rw [jX3_drift_L6, if_neg (fun q => by have := (nI_leI (by omega) (by omega)).mp q; omega), chk_n (by omega) (by omega), rd_n (by omega), nI_1]
    have fin : ∀ X Y, X = driftA n w Wt A p wx wy kB_x v → Y = driftA n w Wt A p wx wy kB_y v → ∀ j, j < n → (j < v + 1 → upd s1 v X j = driftA n w Wt A p wx wy kB_x j ∧ upd s2 v Y j = driftA n w Wt A p wx wy kB_y j) ∧ (v + 1 ≤ j → upd s1 v X j = A kB_x j ∧ upd s2 v Y j = A kB_y j) := fun X Y hX hY j hj => by
      refine ⟨fun z => ?_, fun z => ?_⟩
      · by_cases q : j = v
        · subst q; rw [upd_a, upd_a]; exact ⟨hX, hY⟩
        · rw [upd_b q, upd_b q]; exact (hI j hj).1 (by omega)
      · rw [upd_b (by omega), upd_b (by omega)]; exact (hI j hj).2 (by omega)
    by_cases hst : A kB_state v = 0
    · obtain ⟨i, h1, h2, -⟩ := hP.1 v hv hst
      rw [h2, clamp_n (by omega), if_pos ⟨hv, n_neg (by omega)⟩] at ex ey
      by_cases q : i = v
      · subst q
        obtain ⟨⟨x0, hx1, hx2⟩, ⟨y0, hy1, hy2⟩, -, -⟩ := hW.2.2.1 i hv
        obtain ⟨w1, w2⟩ := hw i hv
        have g0 := c_dxOf hS hx1 hy1
        have g1 := c_dyOf hS hx1 hy1
        refine ⟨(upd s1 i (mvx n w Wt A p wx i), upd s2 i (mvy n w Wt A p wy i)), fin _ _ ex.symm ey.symm, ?_⟩
        rw [h2, if_pos rfl]
        have e : jX3_driftPiece pl' pd' s1 s2 (nI w) wx wy dx dy C (nI i) = some (upd s1 i (mvx n w Wt A p wx i), upd s2 i (mvy n w Wt A p wy i)) := by
          unfold jX3_driftPiece
          rw [chk_n (by omega) (by omega), chk_n (by omega) (by omega), rd_n (by omega), rd_n (by omega), v1, v2, hx2, hy2, c_at hx1 hy1, bnd_n, g0, bnd_n, g1, bnd_n, chk_n (by omega) (by omega), chk_n (by omega) (by omega), jn_n, rd_n (by omega), rd_n (by omega), w1, w2]
          unfold mvx mvy xN yN
          rw [hx2, hy2, clamp_n (by omega), clamp_n (by omega)]
          by_cases c : LF n A p (nI i) ≤ 2 * LD n A p (nI i)
          · rw [if_pos c, if_pos c, if_pos c]
            dsimp only
            rw [chk_n (by omega) (by omega), chk_n (by omega) (by omega), chk_n (by omega) (by omega), chk_n (by omega) (by omega), wr_n (by omega), wr_n (by omega), Int32.add_zero, Int32.add_zero]
          · rw [if_neg c, if_neg c, if_neg c]
            dsimp only
            rw [chk_n (by omega) (by omega), chk_n (by omega) (by omega), chk_n (by omega) (by omega), chk_n (by omega) (by omega), wr_n (by omega), wr_n (by omega), Int32.add_assoc, Int32.add_assoc]
        rw [e, bnd_n]
      · have hin : p i = nI i := (POK_self hn hP hv h2 (by omega)).2.2.2.1
        obtain ⟨b1, b2⟩ := (hI i (by omega)).1 (by omega)
        have ex' : driftA n w Wt A p wx wy kB_x i = if i < n ∧ ¬ p i < 0 then mvx n w Wt A p wx (p i).toNatClampNeg else A kB_x i := rfl
        have ey' : driftA n w Wt A p wx wy kB_y i = if i < n ∧ ¬ p i < 0 then mvy n w Wt A p wy (p i).toNatClampNeg else A kB_y i := rfl
        rw [hin, clamp_n (by omega), if_pos ⟨by omega, n_neg (by omega)⟩] at ex' ey'
        refine ⟨(upd s1 v (s1 i), upd s2 v (s2 i)), fin _ _ (b1.trans (ex'.trans ex.symm)) (b2.trans (ey'.trans ey.symm)), ?_⟩
        rw [h2, if_neg (fun z => q ((nI_eq (by omega) (by omega)).mp z)), if_neg (n_neg (by omega)), chk_n (by omega) (by omega), chk_n (by omega) (by omega), chk_n (by omega) (by omega), chk_n (by omega) (by omega), rd_n (by omega), rd_n (by omega), wr_n (by omega), wr_n (by omega)]
    · have e := hP.2.2 v hv hst
      rw [e, if_neg (fun z => z.2 m1_neg)] at ex ey
      rw [e, if_neg (fun z => n_m1 (by omega) z.symm), if_pos m1_neg]
      refine ⟨(s1, s2), ?_, rfl⟩
      have := fin (s1 v) (s2 v) (v1.trans ex.symm) (v2.trans ey.symm)
      rw [upd_s, upd_s] at this
      exact this
  · unfold jX3_drift
    rw [e1, bnd_n]
    exact bnd_i hr rfl
end CSteps
