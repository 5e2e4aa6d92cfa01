/-! the law: class, reference and the row of answers in one world; what each cell holds stands in S by a number -/
abbrev kX_ropes : Nat := 0
abbrev kW_dx : Nat := 1
abbrev kW_dy : Nat := 2
abbrev kW_wave : Nat := 3
abbrev kW_counting : Nat := 4
abbrev kW_number : Nat := 5
abbrev kW_windDx : Nat := 6
abbrev kW_windDy : Nat := 7
abbrev kR_pieceLift : Nat := 8
abbrev kR_pieceLoad : Nat := 9
abbrev kR_hour : Nat := 10
abbrev kR_broken : Nat := 11
abbrev kB_column : Nat := 12
abbrev kB_row : Nat := 13
abbrev kB_lift : Nat := 14
abbrev kB_leak : Nat := 15
abbrev kB_water : Nat := 16
abbrev kB_goods : Nat := 17
abbrev kB_people : Nat := 18
abbrev kB_state : Nat := 19
abbrev kB_x : Nat := 20
abbrev kB_y : Nat := 21
abbrev kB_piece : Nat := 22
abbrev kB_number : Nat := 23
abbrev kK_seat : Nat := 24
abbrev kK_state : Nat := 25
abbrev kK_number : Nat := 26
abbrev kQ_first : Nat := 27
abbrev kQ_second : Nat := 28
abbrev kQ_strength : Nat := 29
abbrev kQ_wear : Nat := 30
abbrev kQ_number : Nat := 31
abbrev kT_pieceLift : Nat := 32
abbrev kT_pieceLoad : Nat := 33
abbrev kT_hour : Nat := 34
abbrev kT_broken : Nat := 35
abbrev kTB_column : Nat := 36
abbrev kTB_row : Nat := 37
abbrev kTB_lift : Nat := 38
abbrev kTB_leak : Nat := 39
abbrev kTB_water : Nat := 40
abbrev kTB_goods : Nat := 41
abbrev kTB_people : Nat := 42
abbrev kTB_state : Nat := 43
abbrev kTB_x : Nat := 44
abbrev kTB_y : Nat := 45
abbrev kTB_piece : Nat := 46
abbrev kTB_number : Nat := 47
abbrev kTK_seat : Nat := 48
abbrev kTK_state : Nat := 49
abbrev kTK_number : Nat := 50
abbrev kTQ_first : Nat := 51
abbrev kTQ_second : Nat := 52
abbrev kTQ_strength : Nat := 53
abbrev kTQ_wear : Nat := 54
abbrev kTQ_number : Nat := 55
abbrev kY_used : Nat := 56
abbrev kY_cameBy : Nat := 57
abbrev kY_reached : Nat := 58
abbrev kY_best : Nat := 59
abbrev kM_thrown : Nat := 60
abbrev kM_waters : Nat := 61
abbrev kM_waterTable : Nat := 62
abbrev kM_windX : Nat := 63
abbrev kM_windY : Nat := 64
abbrev kM_barrels : Nat := 65
abbrev kM_fixed : Nat := 66
abbrev kM_crew : Nat := 67
abbrev kM_table : Nat := 68
abbrev kM_strength : Nat := 69
abbrev kM_wear : Nat := 70
abbrev kM_people : Nat := 71
abbrev kM_numbers : Nat := 72
abbrev kM_pieces : Nat := 73
abbrev kM_used : Nat := 74
abbrev kM_from : Nat := 75
abbrev kM_line : Nat := 76
abbrev kM_is : Nat := 77
def up (S : Nat → Nat → Int32) (k : Nat) (f : Nat → Int32) : Nat → Nat → Int32 := fun j => if j = k then f else S j
abbrev wLaw (c : Nat → ClassId) (X W R B K Q T TB TK TQ Y : Nat → Nat) (m0 : Nat) (M : Nat → Nat) (o : Nat) (S : Nat → Nat → Int32) (f : Nat → Int64) : va_W := [((X 0), .inr (6, [.ref (W 0), .ref (R 0), .ref (T 0), .ref (Y 0), .int (S 0 0)])), ((W 0), .inr (4, [.ref (W 1), .ref (W 2), .ref (W 3), .ref (W 4), .int (S 5 0), .int (S 6 0), .int (S 7 0)])), aI c (W 1) 8 (S 1), aI c (W 2) 8 (S 2), aI c (W 3) 8 (S 3), aI c (W 4) 600 (S 4), ((R 0), .inr (3, [.ref (B 0), .ref (K 0), .ref (Q 0), .ref (R 1), .ref (R 2), .int (S 10 0), .int (S 11 0)])), aI c (R 1) 24 (S 8), aI c (R 2) 24 (S 9), ((B 0), .inr (0, [.ref (B 1), .ref (B 2), .ref (B 3), .ref (B 4), .ref (B 5), .ref (B 6), .ref (B 7), .ref (B 8), .ref (B 9), .ref (B 10), .ref (B 11), .int (S 23 0)])), aI c (B 1) 24 (S 12), aI c (B 2) 24 (S 13), aI c (B 3) 24 (S 14), aI c (B 4) 24 (S 15), aI c (B 5) 24 (S 16), aI c (B 6) 24 (S 17), aI c (B 7) 24 (S 18), aI c (B 8) 24 (S 19), aI c (B 9) 24 (S 20), aI c (B 10) 24 (S 21), aI c (B 11) 24 (S 22), ((K 0), .inr (1, [.ref (K 1), .ref (K 2), .int (S 26 0)])), aI c (K 1) 8 (S 24), aI c (K 2) 8 (S 25), ((Q 0), .inr (2, [.ref (Q 1), .ref (Q 2), .ref (Q 3), .ref (Q 4), .int (S 31 0)])), aI c (Q 1) 48 (S 27), aI c (Q 2) 48 (S 28), aI c (Q 3) 48 (S 29), aI c (Q 4) 48 (S 30), ((T 0), .inr (3, [.ref (TB 0), .ref (TK 0), .ref (TQ 0), .ref (T 1), .ref (T 2), .int (S 34 0), .int (S 35 0)])), aI c (T 1) 24 (S 32), aI c (T 2) 24 (S 33), ((TB 0), .inr (0, [.ref (TB 1), .ref (TB 2), .ref (TB 3), .ref (TB 4), .ref (TB 5), .ref (TB 6), .ref (TB 7), .ref (TB 8), .ref (TB 9), .ref (TB 10), .ref (TB 11), .int (S 47 0)])), aI c (TB 1) 24 (S 36), aI c (TB 2) 24 (S 37), aI c (TB 3) 24 (S 38), aI c (TB 4) 24 (S 39), aI c (TB 5) 24 (S 40), aI c (TB 6) 24 (S 41), aI c (TB 7) 24 (S 42), aI c (TB 8) 24 (S 43), aI c (TB 9) 24 (S 44), aI c (TB 10) 24 (S 45), aI c (TB 11) 24 (S 46), ((TK 0), .inr (1, [.ref (TK 1), .ref (TK 2), .int (S 50 0)])), aI c (TK 1) 8 (S 48), aI c (TK 2) 8 (S 49), ((TQ 0), .inr (2, [.ref (TQ 1), .ref (TQ 2), .ref (TQ 3), .ref (TQ 4), .int (S 55 0)])), aI c (TQ 1) 48 (S 51), aI c (TQ 2) 48 (S 52), aI c (TQ 3) 48 (S 53), aI c (TQ 4) 48 (S 54), ((Y 0), .inr (5, [.ref (Y 1), .ref (Y 2), .ref (Y 3), .ref (Y 4)])), aI c (Y 1) 48 (S 56), aI c (Y 2) 24 (S 57), aI c (Y 3) 24 (S 58), aI c (Y 4) 24 (S 59), (m0, .inr (7, [.int (S 60 0), .int (S 61 0), .ref (M 1), .int (S 63 0), .int (S 64 0), .int (S 65 0), .ref (M 2), .int (S 67 0), .ref (M 3), .ref (M 4), .ref (M 5), .ref (M 6), .ref (M 7), .ref (M 8), .ref (M 9), .ref (M 10), .ref (M 11), .ref (M 12)])), aI c (M 1) 56 (S 62), aI c (M 2) 72 (S 66), aI c (M 3) 120 (S 68), aI c (M 4) 576 (S 69), aI c (M 5) 576 (S 70), aI c (M 6) 16 (S 71), aI c (M 7) 3 (S 72), aI c (M 8) 24 (S 73), aZ c (M 9) 576 (S 74), aI c (M 10) 24 (S 75), aI c (M 11) 24 (S 76), aZ c (M 12) 24 (S 77), aL c o 1 f]
def SXc (b L : Nat) (xs : Nat → Int32) : CtxT → Prop
  | (_, _, _, _, s, _, _, _, _, _, A, H0, _) => va_X b L xs s H0 ∧ b < H0.size ∧ ¬ A b
def WXL : CtxT → Prop
  | (_, l, _, _, s, _, _, _, _, _, A, H0, _) => l.stackTraces = false ∧ XF A s H0 ∧ NX s ∧ NC s
section VVL
variable {g : CtxT} {D : va_G} {c : Nat → ClassId} {cc : ByteArray} {own : String} {Ts : List Cond} {nL cells slots pc : Nat} {rm : Room} {ws : va_W} {lv : List (Nat × Value)} {st : List Value}
theorem vv_sld (C : CX g D c cc own Ts nL rm) {b L : Nat} {xs : Nat → Int32} (X : SXc b L xs g) {i : Int32} (hin : vp_in i L) (hd : decode cc pc = .ok (.iaload, 1)) (pc' : Nat) (hp : pc + 1 = pc') (kk : VV g D nL cells slots ws lv pc' (.int (xs i.toNatClampNeg) :: st)) : VV g D nL cells slots ws lv pc (.int i :: .ref b :: st) := by
  obtain ⟨p, l, e, R, s, m, args, below, meth, c0, A, H0, Q⟩ := g
  obtain ⟨hx, hb, hml, hown, hts, hK, hA, hlk, rfl, hNW⟩ := C
  subst hp
  obtain ⟨h1, h2, h3⟩ := X
  intro H locs ls hP hD hS hl
  exact va_sld hx hb h1 h2 h3 hS hin hd (kk H locs ls hP hD hS hl)
theorem vv_slen (C : CX g D c cc own Ts nL rm) {b L : Nat} {xs : Nat → Int32} (X : SXc b L xs g) (hd : decode cc pc = .ok (.arraylength, 1)) (pc' : Nat) (hp : pc + 1 = pc') (kk : VV g D nL cells slots ws lv pc' (.int (nI L) :: st)) : VV g D nL cells slots ws lv pc (.ref b :: st) := by
  obtain ⟨p, l, e, R, s, m, args, below, meth, c0, A, H0, Q⟩ := g
  obtain ⟨hx, hb, hml, hown, hts, hK, hA, hlk, rfl, hNW⟩ := C
  subst hp
  obtain ⟨h1, h2, h3⟩ := X
  intro H locs ls hP hD hS hl
  exact va_slen hx hb h1 h2 h3 hS hd (kk H locs ls hP hD hS hl)
variable {y : MethodName} {wy wy' : List Cond} {rmy : Room} {wc w' : va_W} {mc ms maxL n index b ci N : Nat} {ret : Option FieldType} {bytes : ByteArray} {Cn : String} {T : u_T} {As : List Value} {fs : List Value}
theorem vv_callW {hh : List (Nat × Nat × Nat × Nat)} {r : Int32} (C : CX g D c cc own Ts nL rm) (X : WXL g) (M : ∀ l : Launch, l.stackTraces = false → DWi l y wy rmy D c wc As r w' mc ms) (hG : GoodIn Ts (va_wsS own index y wy)) (hwy : wy = Cond.codeWith y bytes maxL ret hh :: wy') (hrc : rmy.cells = mc) (hrs : rmy.slots = ms)
    (hyd : y.cls ≠ "java/lang/invoke/MethodHandle" ∧ y.cls ≠ "java/lang/invoke/VarHandle" ∧ (parseMethodDescriptor y.desc).map (fun d => d.parameters.length) = some n) (hR : rmy.frames + 1 ≤ rm.frames ∧ 8 + (maxL + 11) + rmy.locals ≤ rm.locals)
    (isC : List Nat) (hC : isC.map (fun i => ws[i]?) = wc.map some) (hnd : va_nd isC = true) (ws1 : va_W) (src : List (Bool × Nat)) (hsrc : src.map (srcf ws w') = ws1.map some) (hok : src.all (fun o => o.1 || !(isC.contains o.2)) = true) (hadr : ws1.map Prod.fst = ws.map Prod.fst) (hAs : As.length = n) (rest : List Value) (hst : st = As.reverse ++ rest) (hcat : (rest.map fun v => v.category).sum ≤ 8)
    (hf : cells + mc ≤ rm.cells ∧ slots + ms ≤ rm.slots) (hd : decode cc pc = .ok (.invokestatic index, 3)) (pc' cells' slots' : Nat) (hp : pc + 3 = pc') (hcs : cells + mc = cells' ∧ slots + ms = slots') (kk : VV g D nL cells' slots' ws1 lv pc' (.int r :: rest)) : VV g D nL cells slots ws lv pc st := by
  obtain ⟨p, l, e, R, s, m, args, below, meth, c0, A, H0, Q⟩ := g
  obtain ⟨hx, hb, hml, hown, hts, hK, hA, hlk, rfl, hNW⟩ := C
  obtain ⟨hfl, hXF, hNX, hNC⟩ := X
  obtain ⟨rfl, rfl⟩ := hcs
  subst hp; subst hst
  intro H locs ls hP hD hS hl
  have hF := va_free hD hS hA isC hC
  refine va_calli (vx_runSW (As := As) (rest := rest) ⟨hx, hb, hml, hown, hts⟩ (M l hfl H.size) (vx_cwSW n hts hG hwy hrc hrs hyd hR) ⟨CPreW_blind, fun U hU hW => ⟨rfl, ⟨⟨by rw [hU], by rw [hU]; exact hP.sub isC (fm_of_map hC), va_K.moved hW.alike hK, (hD.sub isC hnd hC).weaken (fun _ _ _ _ => trivial), hNW.warm hW⟩, by rw [hU]; exact ((hXF.kept (fun a ha hna => hS.2.1 a ha hna)).narrow hF).moved hW.alike, hNX.warm hW⟩, hNC.moved hW.alike⟩⟩ rfl hAs hl.1 rfl (lv_room hcat) hd hf) hS (fun q _ h => hF q h) hF (fun r_ u t H1 locs1 ht hvm hw hB hz1 hk1 hS1 => ?_)
  subst hw
  obtain ⟨hP1, hK1, hD1⟩ := hB
  rw [ht] at hP1
  obtain ⟨hP2, hD2⟩ := va_put_back hP hD isC hC hk1 src hsrc hok hadr hP1
  exact kk H1 locs1 ls hP2 hD2 hS1 hl
end VVL
/-- what a call costs -/
def Cost (S S' : Nat → Nat → Int32) (a b : Nat) : Prop := a ≤ 67 ∧ b ≤ 14262 ∧ (b ≤ 6 ∨ (S' kQ_number 0 = S kQ_number 0 ∧ (S kQ_number 0 = 0 → b ≤ 1310)))
