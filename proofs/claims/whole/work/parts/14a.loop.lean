/-! the law's loop -/
def Bud (n : Nat) (S : Nat → Nat → Int32) (cells slots : Nat) : Prop := cells ≤ 71 + 67 * n ∧ ((S kQ_number 0 = 0 ∧ slots ≤ 3964 + 1310 * n) ∨ (1 ≤ n ∧ slots ≤ 3970 + 14262 * (n - 1)))
theorem Bud_step {n : Nat} {S S' : Nat → Nat → Int32} {cells slots a b : Nat} (h : Bud n S cells slots) (hc : Cost S S' a b) : Bud (n + 1) S' (cells + a) (slots + b) := by
  obtain ⟨h1, h2⟩ := h
  obtain ⟨c1, c2, c3⟩ := hc
  refine ⟨by omega, ?_⟩
  rcases h2 with ⟨h2, h3⟩ | ⟨h2, h3⟩
  · rcases c3 with c3 | ⟨c3, c4⟩
    · exact Or.inr ⟨by omega, by omega⟩
    · have := c4 h2
      exact Or.inl ⟨c3.trans h2, by omega⟩
  · exact Or.inr ⟨by omega, by omega⟩
theorem Bud_room {n : Nat} {S : Nat → Nat → Int32} {cells slots : Nat} (h : Bud n S cells slots) (hn : n ≤ 511) : cells + 67 ≤ 601024 ∧ slots + 14262 ≤ 7293034 := by
  obtain ⟨h1, h2⟩ := h
  refine ⟨by omega, ?_⟩
  rcases h2 with ⟨-, h3⟩ | ⟨-, h3⟩ <;> omega
theorem Bud_end {n : Nat} {S : Nat → Nat → Int32} {cells slots : Nat} (h : Bud n S cells slots) (hn : n ≤ 512) : cells ≤ 601024 ∧ slots ≤ 7293034 := by
  obtain ⟨h1, h2⟩ := h
  refine ⟨by omega, ?_⟩
  rcases h2 with ⟨-, h3⟩ | ⟨-, h3⟩ <;> omega
set_option maxHeartbeats 4000000 in
set_option maxRecDepth 100000 in
theorem law_loop {p : Program} {l : Launch} {e : Env} {s : State} {m : MethodId} {below : List Frame} {meth : Method} {c0 : Code} {D : va_G} {c : Nat → ClassId} {b L : Nat} {xs : Nat → Int32} (CA : ∀ d, CX (gL p l e s m below meth c0 b d) D c cL_law RL wsL_law 9 room_1) (XS : ∀ d, SXc b L xs (gL p l e s m below meth c0 b d)) (XW : ∀ d, WXL (gL p l e s m below meth c0 b d)) (hL : L ≤ 4096) (X W R B K Q T TB TK TQ Y : Nat → Nat) (m0 o : Nat)
    (hexit : ∀ (d : Drawn) (cells slots : Nat) (ws : va_W) (lv : List (Nat × Value)), s.drawn.sameBut d lw_cs → cells ≤ 601024 → slots ≤ 7293034 → VV (gL p l e s m below meth c0 b d) D 9 cells slots ws lv 1629 []) :
    ∀ (t n : Nat) (d : Drawn) (M : Nat → Nat) (S : Nat → Nat → Int32) (f : Nat → Int64) (cells slots : Nat), n + t = 513 → n ≤ 512 → s.drawn.sameBut d lw_cs → Rel S → Bud n S cells slots → VV (gL p l e s m below meth c0 b d) D 9 cells slots (wLaw c X W R B K Q T TB TK TQ Y m0 M o S f) [(0, .ref b), (1, .ref (X 0)), (2, .ref m0), (3, .ref o), (4, .int (nI (8 * n)))] 23 [] := by
  intro t
  induction t with
  | zero => intro n d M S f cells slots hn hn2; omega
  | succ t ih =>
    intro n d M S f cells slots hn hn2 hd hR hB
    have C := CA d
    refine vv_iload C dL_law_23 4 rfl 25 rfl ?_
    refine vv_aload_n C dL_law_25 rfl 0 rfl 26 rfl ?_
    refine vv_slen C (XS d) dL_law_26 27 rfl ?_
    refine vv_bipush C (v := 8) dL_law_27 (by decide) 29 rfl ?_
    refine vv_isub C dL_law_29 30 rfl ?_
    refine vv_icmp_gt C 1629 33 dL_law_30 (by decide) rfl (fun _ => hexit d cells slots _ _ hd (Bud_end hB hn2).1 (Bud_end hB hn2).2) (fun hgt => ?_)
    have h8 : 8 * n + 8 ≤ L := by
      rcases Nat.lt_or_ge L (8 * n + 8) with q | q
      · refine absurd ?_ hgt
        rw [Int32.lt_iff_toInt_lt, show (8 : Int32) = nI 8 from rfl, pk_sub_toInt (by omega) (by omega), nI_toInt (by omega)]
        omega
      · exact q
    have hn3 : n ≤ 511 := by omega
    have hin0 : vp_in (nI (8 * n)) L := vp_in_nI (by omega) (by omega)
    have hin : ∀ j : Nat, j < 8 → vp_in (nI (8 * n) + nI j) L := fun j hj => by
      rw [nI_add]
      exact vp_in_nI (by omega) (by omega)
    -- behind each call
    have next : ∀ (d : Drawn) (M : Nat → Nat) (S : Nat → Nat → Int32) (f : Nat → Int64) (cells slots : Nat), s.drawn.sameBut d lw_cs → Rel S → Bud (n + 1) S cells slots → VV (gL p l e s m below meth c0 b d) D 9 cells slots (wLaw c X W R B K Q T TB TK TQ Y m0 M o S f) [(0, .ref b), (1, .ref (X 0)), (2, .ref m0), (3, .ref o), (4, .int (nI (8 * n)))] 1623 [] := fun d M S f cells slots hd hR hB => by
      have C := CA d
      refine vv_iinc C (k := 4) (v := nI (8 * (n + 1))) [(4, .int (nI (8 * (n + 1)))), (0, .ref b), (1, .ref (X 0)), (2, .ref m0), (3, .ref o)] dL_law_1623 rfl (by rw [show (Int32.ofInt 8) = nI 8 from rfl, nI_add]; congr 1) (by decide) rfl 1626 rfl ?_
      refine vv_goto C 23 dL_law_1626 (by decide) ?_
      refine vv_lv [1, 2, 3, 4, 0] [(0, .ref b), (1, .ref (X 0)), (2, .ref m0), (3, .ref o), (4, .int (nI (8 * (n + 1))))] rfl ?_
      exact ih (n + 1) d M S f cells slots (by omega) (by omega) hd hR hB
    have room := Bud_room hB hn3
    have K1 : ∀ (S' : Nat → Nat → Int32) (f' : Nat → Int64) (M' : Nat → Nat) (a b' : Nat), Rel S' → Cost S S' a b' → VV (gL p l e s m below meth c0 b d) D 9 (cells + a) (slots + b') (wLaw c X W R B K Q T TB TK TQ Y m0 M' o S' f') [(0, .ref b), (1, .ref (X 0)), (2, .ref m0), (3, .ref o), (4, .int (nI (8 * n)))] 1623 [] := fun S' f' M' a b' hR' hc => next d M' S' f' _ _ hd hR' (Bud_step hB hc)
    refine vv_aload_n C dL_law_33 rfl 0 rfl 34 rfl ?_
    refine vv_iload C dL_law_34 4 rfl 36 rfl ?_
    refine vv_sld C (XS d) hin0 dL_law_36 37 rfl ?_
    refine vv_bipush C (v := 31) dL_law_37 (by decide) 39 rfl ?_
    refine vv_iand C dL_law_39 40 rfl ?_
    generalize xs (nI (8 * n)).toNatClampNeg &&& 31 = v
    by_cases hv0 : v = 0
    · refine vv_swIn C (off := 104) 144 dL_law_40 (by rw [hv0]; decide) (by rw [hv0]; decide) (by rw [hv0]; rfl) (by decide) ?_
      exact law_addWater C (XS d) (XW d) X W R B K Q T TB TK TQ Y m0 M o S f (nI (8 * n)) hin hR cells slots room K1
    by_cases hv1 : v = 1
    · refine vv_swIn C (off := 236) 276 dL_law_40 (by rw [hv1]; decide) (by rw [hv1]; decide) (by rw [hv1]; rfl) (by decide) ?_
      exact law_sea C (XS d) (XW d) X W R B K Q T TB TK TQ Y m0 M o S f (nI (8 * n)) hin hR cells slots room K1
    by_cases hv2 : v = 2
    · refine vv_swIn C (off := 316) 356 dL_law_40 (by rw [hv2]; decide) (by rw [hv2]; decide) (by rw [hv2]; rfl) (by decide) ?_
      exact law_setWind C (XS d) (XW d) X W R B K Q T TB TK TQ Y m0 M o S f (nI (8 * n)) hin hR cells slots room K1
    by_cases hv3 : v = 3
    · refine vv_swIn C (off := 384) 424 dL_law_40 (by rw [hv3]; decide) (by rw [hv3]; decide) (by rw [hv3]; rfl) (by decide) ?_
      exact law_addBarrel C (XS d) (XW d) X W R B K Q T TB TK TQ Y m0 M o S f (nI (8 * n)) hin hR cells slots room K1
    by_cases hv4 : v = 4
    · refine vv_swIn C (off := 476) 516 dL_law_40 (by rw [hv4]; decide) (by rw [hv4]; decide) (by rw [hv4]; rfl) (by decide) ?_
      exact law_tie C (XS d) (XW d) X W R B K Q T TB TK TQ Y m0 M o S f (nI (8 * n)) hin hR cells slots room K1
    by_cases hv5 : v = 5
    · refine vv_swIn C (off := 556) 596 dL_law_40 (by rw [hv5]; decide) (by rw [hv5]; decide) (by rw [hv5]; rfl) (by decide) ?_
      exact law_cut C (XS d) (XW d) X W R B K Q T TB TK TQ Y m0 M o S f (nI (8 * n)) hin hR cells slots room K1
    by_cases hv6 : v = 6
    · refine vv_swIn C (off := 624) 664 dL_law_40 (by rw [hv6]; decide) (by rw [hv6]; decide) (by rw [hv6]; rfl) (by decide) ?_
      exact law_load C (XS d) (XW d) X W R B K Q T TB TK TQ Y m0 M o S f (nI (8 * n)) hin hR cells slots room K1
    by_cases hv7 : v = 7
    · refine vv_swIn C (off := 692) 732 dL_law_40 (by rw [hv7]; decide) (by rw [hv7]; decide) (by rw [hv7]; rfl) (by decide) ?_
      exact law_barrel C (XS d) (XW d) X W R B K Q T TB TK TQ Y m0 M o S f (nI (8 * n)) hin hR cells slots room K1
    by_cases hv8 : v = 8
    · refine vv_swIn C (off := 760) 800 dL_law_40 (by rw [hv8]; decide) (by rw [hv8]; decide) (by rw [hv8]; rfl) (by decide) ?_
      exact law_lashing C (XS d) (XW d) X W R B K Q T TB TK TQ Y m0 M o S f (nI (8 * n)) hin hR cells slots room K1
    by_cases hv9 : v = 9
    · refine vv_swIn C (off := 840) 880 dL_law_40 (by rw [hv9]; decide) (by rw [hv9]; decide) (by rw [hv9]; rfl) (by decide) ?_
      exact law_addCastaway C (XS d) (XW d) X W R B K Q T TB TK TQ Y m0 M o S f (nI (8 * n)) hin hR cells slots room K1
    by_cases hv10 : v = 10
    · refine vv_swIn C (off := 896) 936 dL_law_40 (by rw [hv10]; decide) (by rw [hv10]; decide) (by rw [hv10]; rfl) (by decide) ?_
      exact law_go C (XS d) (XW d) X W R B K Q T TB TK TQ Y m0 M o S f (nI (8 * n)) hin hR cells slots room K1
    by_cases hv11 : v = 11
    · refine vv_swIn C (off := 964) 1004 dL_law_40 (by rw [hv11]; decide) (by rw [hv11]; decide) (by rw [hv11]; rfl) (by decide) ?_
      exact law_bail C (XS d) (XW d) X W R B K Q T TB TK TQ Y m0 M o S f (nI (8 * n)) hin hR cells slots room K1
    by_cases hv12 : v = 12
    · refine vv_swIn C (off := 1020) 1060 dL_law_40 (by rw [hv12]; decide) (by rw [hv12]; decide) (by rw [hv12]; rfl) (by decide) ?_
      exact law_castaway C (XS d) (XW d) X W R B K Q T TB TK TQ Y m0 M o S f (nI (8 * n)) hin hR cells slots room K1
    by_cases hv13 : v = 13
    · refine vv_swIn C (off := 1088) 1128 dL_law_40 (by rw [hv13]; decide) (by rw [hv13]; decide) (by rw [hv13]; rfl) (by decide) ?_
      exact law_pass C (XS d) (XW d) X W R B K Q T TB TK TQ Y m0 M o S f (nI (8 * n)) hin hR cells slots room K1
    by_cases hv14 : v = 14
    · refine vv_swIn C (off := 1144) 1184 dL_law_40 (by rw [hv14]; decide) (by rw [hv14]; decide) (by rw [hv14]; rfl) (by decide) ?_
      exact law_count C (XS d) (XW d) X W R B K Q T TB TK TQ Y m0 M o S f (nI (8 * n)) hin hR cells slots room K1
    by_cases hv15 : v = 15
    · refine vv_swIn C (off := 1200) 1240 dL_law_40 (by rw [hv15]; decide) (by rw [hv15]; decide) (by rw [hv15]; rfl) (by decide) ?_
      exact law_firm C (XS d) (XW d) X W R B K Q T TB TK TQ Y m0 M o S f (nI (8 * n)) hin hR cells slots room K1
    by_cases hv16 : v = 16
    · refine vv_swIn C (off := 1268) 1308 dL_law_40 (by rw [hv16]; decide) (by rw [hv16]; decide) (by rw [hv16]; rfl) (by decide) ?_
      exact law_hold C (XS d) (XW d) X W R B K Q T TB TK TQ Y m0 M o S f (nI (8 * n)) hin hR cells slots room K1
    by_cases hv17 : v = 17
    · refine vv_swIn C (off := 1336) 1376 dL_law_40 (by rw [hv17]; decide) (by rw [hv17]; decide) (by rw [hv17]; rfl) (by decide) ?_
      exact law_piece C (XS d) (XW d) X W R B K Q T TB TK TQ Y m0 M o S f (nI (8 * n)) hin hR cells slots room K1
    by_cases hv18 : v = 18
    · refine vv_swIn C (off := 1404) 1444 dL_law_40 (by rw [hv18]; decide) (by rw [hv18]; decide) (by rw [hv18]; rfl) (by decide) ?_
      exact law_foresee C (XS d) (XW d) X W R B K Q T TB TK TQ Y m0 M o S f (nI (8 * n)) hin hR cells slots room K1
    by_cases hv19 : v = 19
    · refine vv_swIn C (off := 1472) 1512 dL_law_40 (by rw [hv19]; decide) (by rw [hv19]; decide) (by rw [hv19]; rfl) (by decide) ?_
      exact law_advise C (XS d) (XW d) X W R B K Q T TB TK TQ Y m0 M o S f (nI (8 * n)) hin hR cells slots room K1
    by_cases hv20 : v = 20
    · refine vv_swIn C (off := 1528) 1568 dL_law_40 (by rw [hv20]; decide) (by rw [hv20]; decide) (by rw [hv20]; rfl) (by decide) ?_
      exact law_spare hd CA X W R B K Q T TB TK TQ Y m0 M o S f (nI (8 * n)) hR cells slots room (fun d' S' hd' hR' hc => next d' M S' f cells slots hd' hR' (Bud_step hB hc))
    by_cases hv21 : v = 21
    · refine vv_swIn C (off := 1569) 1609 dL_law_40 (by rw [hv21]; decide) (by rw [hv21]; decide) (by rw [hv21]; rfl) (by decide) ?_
      exact law_digest C (XS d) (XW d) X W R B K Q T TB TK TQ Y m0 M o S f (nI (8 * n)) hin hR cells slots room K1
    refine vv_swOut C 1623 dL_law_40 (sw_out (fun j hj => ?_)) (by decide) ?_
    · have hj : j ≤ 21 := by omega
      rcases (show j = 0 ∨ j = 1 ∨ j = 2 ∨ j = 3 ∨ j = 4 ∨ j = 5 ∨ j = 6 ∨ j = 7 ∨ j = 8 ∨ j = 9 ∨ j = 10 ∨ j = 11 ∨ j = 12 ∨ j = 13 ∨ j = 14 ∨ j = 15 ∨ j = 16 ∨ j = 17 ∨ j = 18 ∨ j = 19 ∨ j = 20 ∨ j = 21 by omega) with rfl | rfl | rfl | rfl | rfl | rfl | rfl | rfl | rfl | rfl | rfl | rfl | rfl | rfl | rfl | rfl | rfl | rfl | rfl | rfl | rfl | rfl
      · exact fun e => hv0 (e.trans (by decide))
      · exact fun e => hv1 (e.trans (by decide))
      · exact fun e => hv2 (e.trans (by decide))
      · exact fun e => hv3 (e.trans (by decide))
      · exact fun e => hv4 (e.trans (by decide))
      · exact fun e => hv5 (e.trans (by decide))
      · exact fun e => hv6 (e.trans (by decide))
      · exact fun e => hv7 (e.trans (by decide))
      · exact fun e => hv8 (e.trans (by decide))
      · exact fun e => hv9 (e.trans (by decide))
      · exact fun e => hv10 (e.trans (by decide))
      · exact fun e => hv11 (e.trans (by decide))
      · exact fun e => hv12 (e.trans (by decide))
      · exact fun e => hv13 (e.trans (by decide))
      · exact fun e => hv14 (e.trans (by decide))
      · exact fun e => hv15 (e.trans (by decide))
      · exact fun e => hv16 (e.trans (by decide))
      · exact fun e => hv17 (e.trans (by decide))
      · exact fun e => hv18 (e.trans (by decide))
      · exact fun e => hv19 (e.trans (by decide))
      · exact fun e => hv20 (e.trans (by decide))
      · exact fun e => hv21 (e.trans (by decide))
    · exact next d M S f cells slots hd hR (Bud_step (a := 0) (b := 0) hB ⟨by omega, by omega, Or.inl (by omega)⟩)
