/-! the class's cells, and its calls as functions of what they hold -/
abbrev wRf (c : Nat → ClassId) (X W R B K Q T TB TK TQ Y : Nat → Nat) (S : Nat → Nat → Int32) : va_W := [((X 0), .inr (6, [.ref (W 0), .ref (R 0), .ref (T 0), .ref (Y 0), .int (S 0 0)])), ((W 0), .inr (4, [.ref (W 1), .ref (W 2), .ref (W 3), .ref (W 4), .int (S 5 0), .int (S 6 0), .int (S 7 0)])), aI c (W 1) 8 (S 1), aI c (W 2) 8 (S 2), aI c (W 3) 8 (S 3), aI c (W 4) 600 (S 4), ((R 0), .inr (3, [.ref (B 0), .ref (K 0), .ref (Q 0), .ref (R 1), .ref (R 2), .int (S 10 0), .int (S 11 0)])), aI c (R 1) 24 (S 8), aI c (R 2) 24 (S 9), ((B 0), .inr (0, [.ref (B 1), .ref (B 2), .ref (B 3), .ref (B 4), .ref (B 5), .ref (B 6), .ref (B 7), .ref (B 8), .ref (B 9), .ref (B 10), .ref (B 11), .int (S 23 0)])), aI c (B 1) 24 (S 12), aI c (B 2) 24 (S 13), aI c (B 3) 24 (S 14), aI c (B 4) 24 (S 15), aI c (B 5) 24 (S 16), aI c (B 6) 24 (S 17), aI c (B 7) 24 (S 18), aI c (B 8) 24 (S 19), aI c (B 9) 24 (S 20), aI c (B 10) 24 (S 21), aI c (B 11) 24 (S 22), ((K 0), .inr (1, [.ref (K 1), .ref (K 2), .int (S 26 0)])), aI c (K 1) 8 (S 24), aI c (K 2) 8 (S 25), ((Q 0), .inr (2, [.ref (Q 1), .ref (Q 2), .ref (Q 3), .ref (Q 4), .int (S 31 0)])), aI c (Q 1) 48 (S 27), aI c (Q 2) 48 (S 28), aI c (Q 3) 48 (S 29), aI c (Q 4) 48 (S 30), ((T 0), .inr (3, [.ref (TB 0), .ref (TK 0), .ref (TQ 0), .ref (T 1), .ref (T 2), .int (S 34 0), .int (S 35 0)])), aI c (T 1) 24 (S 32), aI c (T 2) 24 (S 33), ((TB 0), .inr (0, [.ref (TB 1), .ref (TB 2), .ref (TB 3), .ref (TB 4), .ref (TB 5), .ref (TB 6), .ref (TB 7), .ref (TB 8), .ref (TB 9), .ref (TB 10), .ref (TB 11), .int (S 47 0)])), aI c (TB 1) 24 (S 36), aI c (TB 2) 24 (S 37), aI c (TB 3) 24 (S 38), aI c (TB 4) 24 (S 39), aI c (TB 5) 24 (S 40), aI c (TB 6) 24 (S 41), aI c (TB 7) 24 (S 42), aI c (TB 8) 24 (S 43), aI c (TB 9) 24 (S 44), aI c (TB 10) 24 (S 45), aI c (TB 11) 24 (S 46), ((TK 0), .inr (1, [.ref (TK 1), .ref (TK 2), .int (S 50 0)])), aI c (TK 1) 8 (S 48), aI c (TK 2) 8 (S 49), ((TQ 0), .inr (2, [.ref (TQ 1), .ref (TQ 2), .ref (TQ 3), .ref (TQ 4), .int (S 55 0)])), aI c (TQ 1) 48 (S 51), aI c (TQ 2) 48 (S 52), aI c (TQ 3) 48 (S 53), aI c (TQ 4) 48 (S 54), ((Y 0), .inr (5, [.ref (Y 1), .ref (Y 2), .ref (Y 3), .ref (Y 4)])), aI c (Y 1) 48 (S 56), aI c (Y 2) 24 (S 57), aI c (Y 3) 24 (S 58), aI c (Y 4) 24 (S 59)]
def op_addWater (S : Nat → Nat → Int32) (a1 : Int32) (a2 : Int32) (a3 : Int32) (a4 : Int32) (a5 : Int32) (a6 : Int32) (a7 : Int32) : Option (Int32 × (Nat → Nat → Int32)) := bnd (jX6_addWater (S 5 0) (S 1) (S 2) (S 3) (S 4) a1 a2 a3 a4 a5 a6 a7) (fun q => sel q (fun _ => none) (fun u => bnd (jX7_addWater (S 60 0) (S 61 0) (S 62) a1 a2 a3 a4 a5 a6 a7) (fun q' => some (u.1, (up (up (up (up (up (up (up (up S 5 (fun _ => u.2.1)) 1 u.2.2.1) 2 u.2.2.2.1) 3 u.2.2.2.2.1) 4 u.2.2.2.2.2) 60 (fun _ => q'.2.1)) 61 (fun _ => q'.2.2.1)) 62 q'.2.2.2)))))
theorem op_addWater_s {S : Nat → Nat → Int32} {a1 a2 a3 a4 a5 a6 a7 : Int32} {r : Int32 × (Nat → Nat → Int32)} (h : op_addWater S a1 a2 a3 a4 a5 a6 a7 = some r) : ∃ (u : Int32 × Int32 × (Nat → Int32) × (Nat → Int32) × (Nat → Int32) × (Nat → Int32)) (q' : Int32 × Int32 × Int32 × (Nat → Int32)), jX6_addWater (S 5 0) (S 1) (S 2) (S 3) (S 4) a1 a2 a3 a4 a5 a6 a7 = some (Sum.inr u) ∧ jX7_addWater (S 60 0) (S 61 0) (S 62) a1 a2 a3 a4 a5 a6 a7 = some q' ∧ r = (u.1, (up (up (up (up (up (up (up (up S 5 (fun _ => u.2.1)) 1 u.2.2.1) 2 u.2.2.2.1) 3 u.2.2.2.2.1) 4 u.2.2.2.2.2) 60 (fun _ => q'.2.1)) 61 (fun _ => q'.2.2.1)) 62 q'.2.2.2)) := by
  unfold op_addWater at h
  obtain ⟨q, hq, h⟩ := bnd_s h
  cases q with
  | inl k => cases h
  | inr u =>
    obtain ⟨q', hq', h⟩ := bnd_s h
    exact ⟨u, q', hq, hq', (Option.some.inj h).symm⟩
def op_setWind (S : Nat → Nat → Int32) (a1 : Int32) (a2 : Int32) : Option (Int32 × (Nat → Nat → Int32)) := bnd (jX6_setWind (S 6 0) (S 7 0) a1 a2) (fun q => sel q (fun _ => none) (fun u => bnd (jX7_setWind (S 60 0) (S 63 0) (S 64 0) a1 a2) (fun q' => some (u.1, (up (up (up (up (up S 6 (fun _ => u.2.1)) 7 (fun _ => u.2.2)) 60 (fun _ => q'.2.1)) 63 (fun _ => q'.2.2.1)) 64 (fun _ => q'.2.2.2))))))
theorem op_setWind_s {S : Nat → Nat → Int32} {a1 a2 : Int32} {r : Int32 × (Nat → Nat → Int32)} (h : op_setWind S a1 a2 = some r) : ∃ (u : Int32 × Int32 × Int32) (q' : Int32 × Int32 × Int32 × Int32), jX6_setWind (S 6 0) (S 7 0) a1 a2 = some (Sum.inr u) ∧ jX7_setWind (S 60 0) (S 63 0) (S 64 0) a1 a2 = some q' ∧ r = (u.1, (up (up (up (up (up S 6 (fun _ => u.2.1)) 7 (fun _ => u.2.2)) 60 (fun _ => q'.2.1)) 63 (fun _ => q'.2.2.1)) 64 (fun _ => q'.2.2.2))) := by
  unfold op_setWind at h
  obtain ⟨q, hq, h⟩ := bnd_s h
  cases q with
  | inl k => cases h
  | inr u =>
    obtain ⟨q', hq', h⟩ := bnd_s h
    exact ⟨u, q', hq, hq', (Option.some.inj h).symm⟩
def op_addBarrel (S : Nat → Nat → Int32) (a1 : Int32) (a2 : Int32) (a3 : Int32) (a4 : Int32) : Option (Int32 × (Nat → Nat → Int32)) := bnd (jX6_addBarrel (S 23 0) (S 12) (S 13) (S 14) (S 15) (S 19) (S 20) (S 21) (S 22) a1 a2 a3 a4) (fun q => sel q (fun _ => none) (fun u => bnd (jX7_addBarrel (S 60 0) (S 65 0) (S 66) (S 68) a1 a2 a3 a4) (fun q' => some (u.1, (up (up (up (up (up (up (up (up (up (up (up (up S 23 (fun _ => u.2.1)) 12 u.2.2.1) 13 u.2.2.2.1) 14 u.2.2.2.2.1) 15 u.2.2.2.2.2.1) 20 u.2.2.2.2.2.2.1) 21 u.2.2.2.2.2.2.2.1) 22 u.2.2.2.2.2.2.2.2) 60 (fun _ => q'.2.1)) 65 (fun _ => q'.2.2.1)) 66 q'.2.2.2.1) 68 q'.2.2.2.2)))))
theorem op_addBarrel_s {S : Nat → Nat → Int32} {a1 a2 a3 a4 : Int32} {r : Int32 × (Nat → Nat → Int32)} (h : op_addBarrel S a1 a2 a3 a4 = some r) : ∃ (u : Int32 × Int32 × (Nat → Int32) × (Nat → Int32) × (Nat → Int32) × (Nat → Int32) × (Nat → Int32) × (Nat → Int32) × (Nat → Int32)) (q' : Int32 × Int32 × Int32 × (Nat → Int32) × (Nat → Int32)), jX6_addBarrel (S 23 0) (S 12) (S 13) (S 14) (S 15) (S 19) (S 20) (S 21) (S 22) a1 a2 a3 a4 = some (Sum.inr u) ∧ jX7_addBarrel (S 60 0) (S 65 0) (S 66) (S 68) a1 a2 a3 a4 = some q' ∧ r = (u.1, (up (up (up (up (up (up (up (up (up (up (up (up S 23 (fun _ => u.2.1)) 12 u.2.2.1) 13 u.2.2.2.1) 14 u.2.2.2.2.1) 15 u.2.2.2.2.2.1) 20 u.2.2.2.2.2.2.1) 21 u.2.2.2.2.2.2.2.1) 22 u.2.2.2.2.2.2.2.2) 60 (fun _ => q'.2.1)) 65 (fun _ => q'.2.2.1)) 66 q'.2.2.2.1) 68 q'.2.2.2.2)) := by
  unfold op_addBarrel at h
  obtain ⟨q, hq, h⟩ := bnd_s h
  cases q with
  | inl k => cases h
  | inr u =>
    obtain ⟨q', hq', h⟩ := bnd_s h
    exact ⟨u, q', hq, hq', (Option.some.inj h).symm⟩
def op_tie (S : Nat → Nat → Int32) (a1 : Int32) (a2 : Int32) (a3 : Int32) : Option (Int32 × (Nat → Nat → Int32)) := bnd (jX6_tie (S 0 0) (S 23 0) (S 12) (S 13) (S 19) (S 20) (S 21) (S 22) (S 31 0) (S 27) (S 28) (S 29) (S 30) a1 a2 a3) (fun q => sel q (fun _ => none) (fun u => bnd (jX7_tie (S 60 0) (S 65 0) (S 66) (S 68) (S 69) (S 70) (S 72) a1 a2 a3) (fun q' => some (u.1, (up (up (up (up (up (up (up (up (up (up (up S 0 (fun _ => u.2.1)) 22 u.2.2.1) 31 (fun _ => u.2.2.2.1)) 27 u.2.2.2.2.1) 28 u.2.2.2.2.2.1) 29 u.2.2.2.2.2.2.1) 30 u.2.2.2.2.2.2.2) 60 (fun _ => q'.2.1)) 69 q'.2.2.1) 70 q'.2.2.2.1) 72 q'.2.2.2.2)))))
theorem op_tie_s {S : Nat → Nat → Int32} {a1 a2 a3 : Int32} {r : Int32 × (Nat → Nat → Int32)} (h : op_tie S a1 a2 a3 = some r) : ∃ (u : Int32 × Int32 × (Nat → Int32) × Int32 × (Nat → Int32) × (Nat → Int32) × (Nat → Int32) × (Nat → Int32)) (q' : Int32 × Int32 × (Nat → Int32) × (Nat → Int32) × (Nat → Int32)), jX6_tie (S 0 0) (S 23 0) (S 12) (S 13) (S 19) (S 20) (S 21) (S 22) (S 31 0) (S 27) (S 28) (S 29) (S 30) a1 a2 a3 = some (Sum.inr u) ∧ jX7_tie (S 60 0) (S 65 0) (S 66) (S 68) (S 69) (S 70) (S 72) a1 a2 a3 = some q' ∧ r = (u.1, (up (up (up (up (up (up (up (up (up (up (up S 0 (fun _ => u.2.1)) 22 u.2.2.1) 31 (fun _ => u.2.2.2.1)) 27 u.2.2.2.2.1) 28 u.2.2.2.2.2.1) 29 u.2.2.2.2.2.2.1) 30 u.2.2.2.2.2.2.2) 60 (fun _ => q'.2.1)) 69 q'.2.2.1) 70 q'.2.2.2.1) 72 q'.2.2.2.2)) := by
  unfold op_tie at h
  obtain ⟨q, hq, h⟩ := bnd_s h
  cases q with
  | inl k => cases h
  | inr u =>
    obtain ⟨q', hq', h⟩ := bnd_s h
    exact ⟨u, q', hq, hq', (Option.some.inj h).symm⟩
def op_cut (S : Nat → Nat → Int32) (a1 : Int32) (a2 : Int32) : Option (Int32 × (Nat → Nat → Int32)) := bnd (jX6_cut (S 0 0) (S 23 0) (S 19) (S 22) (S 31 0) (S 27) (S 28) (S 29) (S 30) a1 a2) (fun q => sel q (fun _ => none) (fun u => bnd (jX7_cut (S 60 0) (S 65 0) (S 69) (S 70) (S 72) a1 a2) (fun q' => some (u.1, (up (up (up (up (up (up (up (up (up (up (up S 0 (fun _ => u.2.1)) 22 u.2.2.1) 31 (fun _ => u.2.2.2.1)) 27 u.2.2.2.2.1) 28 u.2.2.2.2.2.1) 29 u.2.2.2.2.2.2.1) 30 u.2.2.2.2.2.2.2) 60 (fun _ => q'.2.1)) 69 q'.2.2.1) 70 q'.2.2.2.1) 72 q'.2.2.2.2)))))
theorem op_cut_s {S : Nat → Nat → Int32} {a1 a2 : Int32} {r : Int32 × (Nat → Nat → Int32)} (h : op_cut S a1 a2 = some r) : ∃ (u : Int32 × Int32 × (Nat → Int32) × Int32 × (Nat → Int32) × (Nat → Int32) × (Nat → Int32) × (Nat → Int32)) (q' : Int32 × Int32 × (Nat → Int32) × (Nat → Int32) × (Nat → Int32)), jX6_cut (S 0 0) (S 23 0) (S 19) (S 22) (S 31 0) (S 27) (S 28) (S 29) (S 30) a1 a2 = some (Sum.inr u) ∧ jX7_cut (S 60 0) (S 65 0) (S 69) (S 70) (S 72) a1 a2 = some q' ∧ r = (u.1, (up (up (up (up (up (up (up (up (up (up (up S 0 (fun _ => u.2.1)) 22 u.2.2.1) 31 (fun _ => u.2.2.2.1)) 27 u.2.2.2.2.1) 28 u.2.2.2.2.2.1) 29 u.2.2.2.2.2.2.1) 30 u.2.2.2.2.2.2.2) 60 (fun _ => q'.2.1)) 69 q'.2.2.1) 70 q'.2.2.2.1) 72 q'.2.2.2.2)) := by
  unfold op_cut at h
  obtain ⟨q, hq, h⟩ := bnd_s h
  cases q with
  | inl k => cases h
  | inr u =>
    obtain ⟨q', hq', h⟩ := bnd_s h
    exact ⟨u, q', hq, hq', (Option.some.inj h).symm⟩
def op_load (S : Nat → Nat → Int32) (a1 : Int32) (a2 : Int32) : Option (Int32 × (Nat → Nat → Int32)) := bnd (jX6_load (S 23 0) (S 17) (S 19) a1 a2) (fun q => sel q (fun _ => none) (fun u => bnd (jX7_load (S 60 0) (S 65 0) (S 68) a1 a2) (fun q' => some (u.1, (up (up (up S 17 u.2) 60 (fun _ => q'.2.1)) 68 q'.2.2)))))
theorem op_load_s {S : Nat → Nat → Int32} {a1 a2 : Int32} {r : Int32 × (Nat → Nat → Int32)} (h : op_load S a1 a2 = some r) : ∃ (u : Int32 × (Nat → Int32)) (q' : Int32 × Int32 × (Nat → Int32)), jX6_load (S 23 0) (S 17) (S 19) a1 a2 = some (Sum.inr u) ∧ jX7_load (S 60 0) (S 65 0) (S 68) a1 a2 = some q' ∧ r = (u.1, (up (up (up S 17 u.2) 60 (fun _ => q'.2.1)) 68 q'.2.2)) := by
  unfold op_load at h
  obtain ⟨q, hq, h⟩ := bnd_s h
  cases q with
  | inl k => cases h
  | inr u =>
    obtain ⟨q', hq', h⟩ := bnd_s h
    exact ⟨u, q', hq, hq', (Option.some.inj h).symm⟩
def op_barrel (S : Nat → Nat → Int32) (a1 : Int32) (a2 : Int32) : Option (Int32 × (Nat → Nat → Int32)) := bnd (jX6_barrel (S 23 0) (S 12) (S 13) (S 14) (S 15) (S 16) (S 17) (S 18) (S 19) (S 20) (S 21) (S 22) (S 31 0) (S 27) (S 28) a1 a2) (fun q => sel q (fun _ => none) (fun u => bnd (jX7_barrel (S 60 0) (S 65 0) (S 67 0) (S 66) (S 68) (S 69) (S 71) (S 73) a1 a2) (fun q' => some (u, (up (up S 60 (fun _ => q'.2.1)) 73 q'.2.2)))))
theorem op_barrel_s {S : Nat → Nat → Int32} {a1 a2 : Int32} {r : Int32 × (Nat → Nat → Int32)} (h : op_barrel S a1 a2 = some r) : ∃ (u : Int32) (q' : Int32 × Int32 × (Nat → Int32)), jX6_barrel (S 23 0) (S 12) (S 13) (S 14) (S 15) (S 16) (S 17) (S 18) (S 19) (S 20) (S 21) (S 22) (S 31 0) (S 27) (S 28) a1 a2 = some (Sum.inr u) ∧ jX7_barrel (S 60 0) (S 65 0) (S 67 0) (S 66) (S 68) (S 69) (S 71) (S 73) a1 a2 = some q' ∧ r = (u, (up (up S 60 (fun _ => q'.2.1)) 73 q'.2.2)) := by
  unfold op_barrel at h
  obtain ⟨q, hq, h⟩ := bnd_s h
  cases q with
  | inl k => cases h
  | inr u =>
    obtain ⟨q', hq', h⟩ := bnd_s h
    exact ⟨u, q', hq, hq', (Option.some.inj h).symm⟩
def op_lashing (S : Nat → Nat → Int32) (a1 : Int32) (a2 : Int32) (a3 : Int32) : Option (Int32 × (Nat → Nat → Int32)) := bnd (jX6_lashing (S 5 0) (S 3) (S 4) (S 23 0) (S 17) (S 18) (S 20) (S 21) (S 31 0) (S 27) (S 28) (S 29) (S 30) a1 a2 a3) (fun q => sel q (fun _ => none) (fun u => bnd (jX7_lashing (S 60 0) (S 61 0) (S 65 0) (S 67 0) (S 62) (S 68) (S 69) (S 70) (S 71) a1 a2 a3) (fun q' => some (u, (up S 60 (fun _ => q'.2))))))
theorem op_lashing_s {S : Nat → Nat → Int32} {a1 a2 a3 : Int32} {r : Int32 × (Nat → Nat → Int32)} (h : op_lashing S a1 a2 a3 = some r) : ∃ (u : Int32) (q' : Int32 × Int32), jX6_lashing (S 5 0) (S 3) (S 4) (S 23 0) (S 17) (S 18) (S 20) (S 21) (S 31 0) (S 27) (S 28) (S 29) (S 30) a1 a2 a3 = some (Sum.inr u) ∧ jX7_lashing (S 60 0) (S 61 0) (S 65 0) (S 67 0) (S 62) (S 68) (S 69) (S 70) (S 71) a1 a2 a3 = some q' ∧ r = (u, (up S 60 (fun _ => q'.2))) := by
  unfold op_lashing at h
  obtain ⟨q, hq, h⟩ := bnd_s h
  cases q with
  | inl k => cases h
  | inr u =>
    obtain ⟨q', hq', h⟩ := bnd_s h
    exact ⟨u, q', hq, hq', (Option.some.inj h).symm⟩
def op_addCastaway (S : Nat → Nat → Int32) (a1 : Int32) : Option (Int32 × (Nat → Nat → Int32)) := bnd (jX6_addCastaway (S 23 0) (S 18) (S 19) (S 26 0) (S 24) (S 25) a1) (fun q => sel q (fun _ => none) (fun u => bnd (jX7_addCastaway (S 60 0) (S 65 0) (S 67 0) (S 68) (S 71) a1) (fun q' => some (u.1, (up (up (up (up (up (up (up S 18 u.2.1) 26 (fun _ => u.2.2.1)) 24 u.2.2.2.1) 25 u.2.2.2.2) 60 (fun _ => q'.2.1)) 67 (fun _ => q'.2.2.1)) 71 q'.2.2.2)))))
theorem op_addCastaway_s {S : Nat → Nat → Int32} {a1 : Int32} {r : Int32 × (Nat → Nat → Int32)} (h : op_addCastaway S a1 = some r) : ∃ (u : Int32 × (Nat → Int32) × Int32 × (Nat → Int32) × (Nat → Int32)) (q' : Int32 × Int32 × Int32 × (Nat → Int32)), jX6_addCastaway (S 23 0) (S 18) (S 19) (S 26 0) (S 24) (S 25) a1 = some (Sum.inr u) ∧ jX7_addCastaway (S 60 0) (S 65 0) (S 67 0) (S 68) (S 71) a1 = some q' ∧ r = (u.1, (up (up (up (up (up (up (up S 18 u.2.1) 26 (fun _ => u.2.2.1)) 24 u.2.2.2.1) 25 u.2.2.2.2) 60 (fun _ => q'.2.1)) 67 (fun _ => q'.2.2.1)) 71 q'.2.2.2)) := by
  unfold op_addCastaway at h
  obtain ⟨q, hq, h⟩ := bnd_s h
  cases q with
  | inl k => cases h
  | inr u =>
    obtain ⟨q', hq', h⟩ := bnd_s h
    exact ⟨u, q', hq, hq', (Option.some.inj h).symm⟩
def op_go (S : Nat → Nat → Int32) (a1 : Int32) (a2 : Int32) : Option (Int32 × (Nat → Nat → Int32)) := bnd (jX6_go (S 23 0) (S 18) (S 26 0) (S 24) (S 31 0) (S 27) (S 28) a1 a2) (fun q => sel q (fun _ => none) (fun u => bnd (jX7_go (S 60 0) (S 65 0) (S 67 0) (S 69) (S 71) a1 a2) (fun q' => some (u.1, (up (up (up (up S 18 u.2.1) 24 u.2.2) 60 (fun _ => q'.2.1)) 71 q'.2.2)))))
theorem op_go_s {S : Nat → Nat → Int32} {a1 a2 : Int32} {r : Int32 × (Nat → Nat → Int32)} (h : op_go S a1 a2 = some r) : ∃ (u : Int32 × (Nat → Int32) × (Nat → Int32)) (q' : Int32 × Int32 × (Nat → Int32)), jX6_go (S 23 0) (S 18) (S 26 0) (S 24) (S 31 0) (S 27) (S 28) a1 a2 = some (Sum.inr u) ∧ jX7_go (S 60 0) (S 65 0) (S 67 0) (S 69) (S 71) a1 a2 = some q' ∧ r = (u.1, (up (up (up (up S 18 u.2.1) 24 u.2.2) 60 (fun _ => q'.2.1)) 71 q'.2.2)) := by
  unfold op_go at h
  obtain ⟨q, hq, h⟩ := bnd_s h
  cases q with
  | inl k => cases h
  | inr u =>
    obtain ⟨q', hq', h⟩ := bnd_s h
    exact ⟨u, q', hq, hq', (Option.some.inj h).symm⟩
def op_bail (S : Nat → Nat → Int32) (a1 : Int32) : Option (Int32 × (Nat → Nat → Int32)) := bnd (jX6_bail (S 23 0) (S 16) (S 26 0) (S 24) a1) (fun q => sel q (fun _ => none) (fun u => bnd (jX7_bail (S 60 0) (S 67 0) (S 68) (S 71) a1) (fun q' => some (u.1, (up (up (up S 16 u.2) 60 (fun _ => q'.2.1)) 68 q'.2.2)))))
theorem op_bail_s {S : Nat → Nat → Int32} {a1 : Int32} {r : Int32 × (Nat → Nat → Int32)} (h : op_bail S a1 = some r) : ∃ (u : Int32 × (Nat → Int32)) (q' : Int32 × Int32 × (Nat → Int32)), jX6_bail (S 23 0) (S 16) (S 26 0) (S 24) a1 = some (Sum.inr u) ∧ jX7_bail (S 60 0) (S 67 0) (S 68) (S 71) a1 = some q' ∧ r = (u.1, (up (up (up S 16 u.2) 60 (fun _ => q'.2.1)) 68 q'.2.2)) := by
  unfold op_bail at h
  obtain ⟨q, hq, h⟩ := bnd_s h
  cases q with
  | inl k => cases h
  | inr u =>
    obtain ⟨q', hq', h⟩ := bnd_s h
    exact ⟨u, q', hq, hq', (Option.some.inj h).symm⟩
def op_castaway (S : Nat → Nat → Int32) (a1 : Int32) (a2 : Int32) : Option (Int32 × (Nat → Nat → Int32)) := bnd (jX6_castaway (S 26 0) (S 24) (S 25) a1 a2) (fun q => sel q (fun _ => none) (fun u => bnd (jX7_castaway (S 60 0) (S 67 0) (S 71) a1 a2) (fun q' => some (u, (up S 60 (fun _ => q'.2))))))
theorem op_castaway_s {S : Nat → Nat → Int32} {a1 a2 : Int32} {r : Int32 × (Nat → Nat → Int32)} (h : op_castaway S a1 a2 = some r) : ∃ (u : Int32) (q' : Int32 × Int32), jX6_castaway (S 26 0) (S 24) (S 25) a1 a2 = some (Sum.inr u) ∧ jX7_castaway (S 60 0) (S 67 0) (S 71) a1 a2 = some q' ∧ r = (u, (up S 60 (fun _ => q'.2))) := by
  unfold op_castaway at h
  obtain ⟨q, hq, h⟩ := bnd_s h
  cases q with
  | inl k => cases h
  | inr u =>
    obtain ⟨q', hq', h⟩ := bnd_s h
    exact ⟨u, q', hq, hq', (Option.some.inj h).symm⟩
def op_pass (S : Nat → Nat → Int32) (a1 : Int32) : Option (Int32 × (Nat → Nat → Int32)) := bnd (jX6_pass (S 5 0) (S 6 0) (S 7 0) (S 1) (S 2) (S 3) (S 4) (S 10 0) (S 11 0) (S 8) (S 9) (S 23 0) (S 14) (S 15) (S 16) (S 17) (S 18) (S 19) (S 20) (S 21) (S 22) (S 26 0) (S 24) (S 25) (S 31 0) (S 27) (S 28) (S 29) (S 30) a1) (fun q => sel q (fun _ => none) (fun u => bnd (jX7_pass (S 60 0) (S 61 0) (S 63 0) (S 64 0) (S 65 0) (S 67 0) (S 62) (S 66) (S 68) (S 69) (S 70) (S 71) (S 72) (S 73) a1) (fun q' => some (u.1, (up (up (up (up (up (up (up (up (up (up (up (up (up (up (up (up (up (up (up (up (up (up (up (up (up S 10 (fun _ => u.2.1)) 11 (fun _ => u.2.2.1)) 8 u.2.2.2.1) 9 u.2.2.2.2.1) 16 u.2.2.2.2.2.1) 17 u.2.2.2.2.2.2.1) 18 u.2.2.2.2.2.2.2.1) 19 u.2.2.2.2.2.2.2.2.1) 20 u.2.2.2.2.2.2.2.2.2.1) 21 u.2.2.2.2.2.2.2.2.2.2.1) 22 u.2.2.2.2.2.2.2.2.2.2.2.1) 24 u.2.2.2.2.2.2.2.2.2.2.2.2.1) 25 u.2.2.2.2.2.2.2.2.2.2.2.2.2.1) 31 (fun _ => u.2.2.2.2.2.2.2.2.2.2.2.2.2.2.1)) 27 u.2.2.2.2.2.2.2.2.2.2.2.2.2.2.2.1) 28 u.2.2.2.2.2.2.2.2.2.2.2.2.2.2.2.2.1) 29 u.2.2.2.2.2.2.2.2.2.2.2.2.2.2.2.2.2.1) 30 u.2.2.2.2.2.2.2.2.2.2.2.2.2.2.2.2.2.2) 60 (fun _ => q'.2.1)) 68 q'.2.2.1) 69 q'.2.2.2.1) 70 q'.2.2.2.2.1) 71 q'.2.2.2.2.2.1) 72 q'.2.2.2.2.2.2.1) 73 q'.2.2.2.2.2.2.2)))))
theorem op_pass_s {S : Nat → Nat → Int32} {a1 : Int32} {r : Int32 × (Nat → Nat → Int32)} (h : op_pass S a1 = some r) : ∃ (u : Int32 × Int32 × Int32 × (Nat → Int32) × (Nat → Int32) × (Nat → Int32) × (Nat → Int32) × (Nat → Int32) × (Nat → Int32) × (Nat → Int32) × (Nat → Int32) × (Nat → Int32) × (Nat → Int32) × (Nat → Int32) × Int32 × (Nat → Int32) × (Nat → Int32) × (Nat → Int32) × (Nat → Int32)) (q' : Int32 × Int32 × (Nat → Int32) × (Nat → Int32) × (Nat → Int32) × (Nat → Int32) × (Nat → Int32) × (Nat → Int32)), jX6_pass (S 5 0) (S 6 0) (S 7 0) (S 1) (S 2) (S 3) (S 4) (S 10 0) (S 11 0) (S 8) (S 9) (S 23 0) (S 14) (S 15) (S 16) (S 17) (S 18) (S 19) (S 20) (S 21) (S 22) (S 26 0) (S 24) (S 25) (S 31 0) (S 27) (S 28) (S 29) (S 30) a1 = some (Sum.inr u) ∧ jX7_pass (S 60 0) (S 61 0) (S 63 0) (S 64 0) (S 65 0) (S 67 0) (S 62) (S 66) (S 68) (S 69) (S 70) (S 71) (S 72) (S 73) a1 = some q' ∧ r = (u.1, (up (up (up (up (up (up (up (up (up (up (up (up (up (up (up (up (up (up (up (up (up (up (up (up (up S 10 (fun _ => u.2.1)) 11 (fun _ => u.2.2.1)) 8 u.2.2.2.1) 9 u.2.2.2.2.1) 16 u.2.2.2.2.2.1) 17 u.2.2.2.2.2.2.1) 18 u.2.2.2.2.2.2.2.1) 19 u.2.2.2.2.2.2.2.2.1) 20 u.2.2.2.2.2.2.2.2.2.1) 21 u.2.2.2.2.2.2.2.2.2.2.1) 22 u.2.2.2.2.2.2.2.2.2.2.2.1) 24 u.2.2.2.2.2.2.2.2.2.2.2.2.1) 25 u.2.2.2.2.2.2.2.2.2.2.2.2.2.1) 31 (fun _ => u.2.2.2.2.2.2.2.2.2.2.2.2.2.2.1)) 27 u.2.2.2.2.2.2.2.2.2.2.2.2.2.2.2.1) 28 u.2.2.2.2.2.2.2.2.2.2.2.2.2.2.2.2.1) 29 u.2.2.2.2.2.2.2.2.2.2.2.2.2.2.2.2.2.1) 30 u.2.2.2.2.2.2.2.2.2.2.2.2.2.2.2.2.2.2) 60 (fun _ => q'.2.1)) 68 q'.2.2.1) 69 q'.2.2.2.1) 70 q'.2.2.2.2.1) 71 q'.2.2.2.2.2.1) 72 q'.2.2.2.2.2.2.1) 73 q'.2.2.2.2.2.2.2)) := by
  unfold op_pass at h
  obtain ⟨q, hq, h⟩ := bnd_s h
  cases q with
  | inl k => cases h
  | inr u =>
    obtain ⟨q', hq', h⟩ := bnd_s h
    exact ⟨u, q', hq, hq', (Option.some.inj h).symm⟩
def op_count (S : Nat → Nat → Int32) (a1 : Int32) : Option (Int32 × (Nat → Nat → Int32)) := bnd (jX6_count (S 0 0) (S 10 0) (S 11 0) (S 23 0) (S 17) (S 19) (S 22) (S 26 0) (S 25) (S 31 0) a1) (fun q => sel q (fun _ => none) (fun u => bnd (jX7_count (S 60 0) (S 65 0) (S 67 0) (S 68) (S 69) (S 71) (S 72) (S 73) a1) (fun q' => some (u, (up (up S 60 (fun _ => q'.2.1)) 73 q'.2.2)))))
theorem op_count_s {S : Nat → Nat → Int32} {a1 : Int32} {r : Int32 × (Nat → Nat → Int32)} (h : op_count S a1 = some r) : ∃ (u : Int32) (q' : Int32 × Int32 × (Nat → Int32)), jX6_count (S 0 0) (S 10 0) (S 11 0) (S 23 0) (S 17) (S 19) (S 22) (S 26 0) (S 25) (S 31 0) a1 = some (Sum.inr u) ∧ jX7_count (S 60 0) (S 65 0) (S 67 0) (S 68) (S 69) (S 71) (S 72) (S 73) a1 = some q' ∧ r = (u, (up (up S 60 (fun _ => q'.2.1)) 73 q'.2.2)) := by
  unfold op_count at h
  obtain ⟨q, hq, h⟩ := bnd_s h
  cases q with
  | inl k => cases h
  | inr u =>
    obtain ⟨q', hq', h⟩ := bnd_s h
    exact ⟨u, q', hq, hq', (Option.some.inj h).symm⟩
def op_firm (S : Nat → Nat → Int32) (a1 : Int32) (a2 : Int32) : Option (Int32 × (Nat → Nat → Int32)) := bnd (jX6_firm (S 23 0) (S 31 0) (S 27) (S 28) (S 56) (S 57) (S 58) a1 a2) (fun q => sel q (fun _ => none) (fun u => bnd (jX7_firm (S 60 0) (S 65 0) (S 69) (S 74) (S 75) (S 76) a1 a2) (fun q' => some (u.1, (up (up (up (up (up (up (up S 56 u.2.1) 57 u.2.2.1) 58 u.2.2.2) 60 (fun _ => q'.2.1)) 74 q'.2.2.1) 75 q'.2.2.2.1) 76 q'.2.2.2.2)))))
theorem op_firm_s {S : Nat → Nat → Int32} {a1 a2 : Int32} {r : Int32 × (Nat → Nat → Int32)} (h : op_firm S a1 a2 = some r) : ∃ (u : Int32 × (Nat → Int32) × (Nat → Int32) × (Nat → Int32)) (q' : Int32 × Int32 × (Nat → Int32) × (Nat → Int32) × (Nat → Int32)), jX6_firm (S 23 0) (S 31 0) (S 27) (S 28) (S 56) (S 57) (S 58) a1 a2 = some (Sum.inr u) ∧ jX7_firm (S 60 0) (S 65 0) (S 69) (S 74) (S 75) (S 76) a1 a2 = some q' ∧ r = (u.1, (up (up (up (up (up (up (up S 56 u.2.1) 57 u.2.2.1) 58 u.2.2.2) 60 (fun _ => q'.2.1)) 74 q'.2.2.1) 75 q'.2.2.2.1) 76 q'.2.2.2.2)) := by
  unfold op_firm at h
  obtain ⟨q, hq, h⟩ := bnd_s h
  cases q with
  | inl k => cases h
  | inr u =>
    obtain ⟨q', hq', h⟩ := bnd_s h
    exact ⟨u, q', hq, hq', (Option.some.inj h).symm⟩
def op_hold (S : Nat → Nat → Int32) (a1 : Int32) (a2 : Int32) : Option (Int32 × (Nat → Nat → Int32)) := bnd (jX6_hold (S 23 0) (S 31 0) (S 27) (S 28) (S 29) (S 30) (S 59) a1 a2) (fun q => sel q (fun _ => none) (fun u => bnd (jX7_hold (S 60 0) (S 65 0) (S 69) (S 70) (S 77) a1 a2) (fun q' => some (u.1, (up (up (up S 59 u.2) 60 (fun _ => q'.2.1)) 77 q'.2.2)))))
theorem op_hold_s {S : Nat → Nat → Int32} {a1 a2 : Int32} {r : Int32 × (Nat → Nat → Int32)} (h : op_hold S a1 a2 = some r) : ∃ (u : Int32 × (Nat → Int32)) (q' : Int32 × Int32 × (Nat → Int32)), jX6_hold (S 23 0) (S 31 0) (S 27) (S 28) (S 29) (S 30) (S 59) a1 a2 = some (Sum.inr u) ∧ jX7_hold (S 60 0) (S 65 0) (S 69) (S 70) (S 77) a1 a2 = some q' ∧ r = (u.1, (up (up (up S 59 u.2) 60 (fun _ => q'.2.1)) 77 q'.2.2)) := by
  unfold op_hold at h
  obtain ⟨q, hq, h⟩ := bnd_s h
  cases q with
  | inl k => cases h
  | inr u =>
    obtain ⟨q', hq', h⟩ := bnd_s h
    exact ⟨u, q', hq, hq', (Option.some.inj h).symm⟩
def op_piece (S : Nat → Nat → Int32) (a1 : Int32) (a2 : Int32) : Option (Int32 × (Nat → Nat → Int32)) := bnd (jX6_piece (S 23 0) (S 14) (S 16) (S 17) (S 18) (S 22) (S 31 0) (S 27) (S 28) (S 56) (S 57) (S 58) a1 a2) (fun q => sel q (fun _ => none) (fun u => bnd (jX7_piece (S 60 0) (S 65 0) (S 67 0) (S 66) (S 68) (S 69) (S 70) (S 71) (S 73) (S 77) a1 a2) (fun q' => some (u.1, (up (up (up (up (up (up S 56 u.2.1) 57 u.2.2.1) 58 u.2.2.2) 60 (fun _ => q'.2.1)) 73 q'.2.2.1) 77 q'.2.2.2)))))
theorem op_piece_s {S : Nat → Nat → Int32} {a1 a2 : Int32} {r : Int32 × (Nat → Nat → Int32)} (h : op_piece S a1 a2 = some r) : ∃ (u : Int32 × (Nat → Int32) × (Nat → Int32) × (Nat → Int32)) (q' : Int32 × Int32 × (Nat → Int32) × (Nat → Int32)), jX6_piece (S 23 0) (S 14) (S 16) (S 17) (S 18) (S 22) (S 31 0) (S 27) (S 28) (S 56) (S 57) (S 58) a1 a2 = some (Sum.inr u) ∧ jX7_piece (S 60 0) (S 65 0) (S 67 0) (S 66) (S 68) (S 69) (S 70) (S 71) (S 73) (S 77) a1 a2 = some q' ∧ r = (u.1, (up (up (up (up (up (up S 56 u.2.1) 57 u.2.2.1) 58 u.2.2.2) 60 (fun _ => q'.2.1)) 73 q'.2.2.1) 77 q'.2.2.2)) := by
  unfold op_piece at h
  obtain ⟨q, hq, h⟩ := bnd_s h
  cases q with
  | inl k => cases h
  | inr u =>
    obtain ⟨q', hq', h⟩ := bnd_s h
    exact ⟨u, q', hq, hq', (Option.some.inj h).symm⟩
def op_foresee (S : Nat → Nat → Int32) (a1 : Int32) (a2 : Int32) : Option (Int32 × (Nat → Nat → Int32)) := bnd (jX6_foresee (S 5 0) (S 6 0) (S 7 0) (S 1) (S 2) (S 3) (S 4) (S 10 0) (S 11 0) (S 23 0) (S 12) (S 13) (S 14) (S 15) (S 16) (S 17) (S 18) (S 19) (S 20) (S 21) (S 22) (S 26 0) (S 24) (S 25) (S 31 0) (S 27) (S 28) (S 29) (S 30) (S 34 0) (S 35 0) (S 32) (S 33) (S 47 0) (S 36) (S 37) (S 38) (S 39) (S 40) (S 41) (S 42) (S 43) (S 44) (S 45) (S 46) (S 50 0) (S 48) (S 49) (S 55 0) (S 51) (S 52) (S 53) (S 54) a1 a2) (fun q => sel q (fun _ => none) (fun u => bnd (jX7_foresee (S 60 0) (S 61 0) (S 63 0) (S 64 0) (S 65 0) (S 67 0) (S 62) (S 66) (S 68) (S 69) (S 70) (S 71) (S 72) (S 73) a1 a2) (fun q' => some (u.1, (up (up (up (up (up (up (up (up (up (up (up (up (up (up (up (up (up (up (up (up (up (up (up (up (up (up S 34 (fun _ => u.2.1)) 35 (fun _ => u.2.2.1)) 32 u.2.2.2.1) 33 u.2.2.2.2.1) 47 (fun _ => u.2.2.2.2.2.1)) 36 u.2.2.2.2.2.2.1) 37 u.2.2.2.2.2.2.2.1) 38 u.2.2.2.2.2.2.2.2.1) 39 u.2.2.2.2.2.2.2.2.2.1) 40 u.2.2.2.2.2.2.2.2.2.2.1) 41 u.2.2.2.2.2.2.2.2.2.2.2.1) 42 u.2.2.2.2.2.2.2.2.2.2.2.2.1) 43 u.2.2.2.2.2.2.2.2.2.2.2.2.2.1) 44 u.2.2.2.2.2.2.2.2.2.2.2.2.2.2.1) 45 u.2.2.2.2.2.2.2.2.2.2.2.2.2.2.2.1) 46 u.2.2.2.2.2.2.2.2.2.2.2.2.2.2.2.2.1) 50 (fun _ => u.2.2.2.2.2.2.2.2.2.2.2.2.2.2.2.2.2.1)) 48 u.2.2.2.2.2.2.2.2.2.2.2.2.2.2.2.2.2.2.1) 49 u.2.2.2.2.2.2.2.2.2.2.2.2.2.2.2.2.2.2.2.1) 55 (fun _ => u.2.2.2.2.2.2.2.2.2.2.2.2.2.2.2.2.2.2.2.2.1)) 51 u.2.2.2.2.2.2.2.2.2.2.2.2.2.2.2.2.2.2.2.2.2.1) 52 u.2.2.2.2.2.2.2.2.2.2.2.2.2.2.2.2.2.2.2.2.2.2.1) 53 u.2.2.2.2.2.2.2.2.2.2.2.2.2.2.2.2.2.2.2.2.2.2.2.1) 54 u.2.2.2.2.2.2.2.2.2.2.2.2.2.2.2.2.2.2.2.2.2.2.2.2) 60 (fun _ => q'.2.1)) 73 q'.2.2)))))
theorem op_foresee_s {S : Nat → Nat → Int32} {a1 a2 : Int32} {r : Int32 × (Nat → Nat → Int32)} (h : op_foresee S a1 a2 = some r) : ∃ (u : Int32 × Int32 × Int32 × (Nat → Int32) × (Nat → Int32) × Int32 × (Nat → Int32) × (Nat → Int32) × (Nat → Int32) × (Nat → Int32) × (Nat → Int32) × (Nat → Int32) × (Nat → Int32) × (Nat → Int32) × (Nat → Int32) × (Nat → Int32) × (Nat → Int32) × Int32 × (Nat → Int32) × (Nat → Int32) × Int32 × (Nat → Int32) × (Nat → Int32) × (Nat → Int32) × (Nat → Int32)) (q' : Int32 × Int32 × (Nat → Int32)), jX6_foresee (S 5 0) (S 6 0) (S 7 0) (S 1) (S 2) (S 3) (S 4) (S 10 0) (S 11 0) (S 23 0) (S 12) (S 13) (S 14) (S 15) (S 16) (S 17) (S 18) (S 19) (S 20) (S 21) (S 22) (S 26 0) (S 24) (S 25) (S 31 0) (S 27) (S 28) (S 29) (S 30) (S 34 0) (S 35 0) (S 32) (S 33) (S 47 0) (S 36) (S 37) (S 38) (S 39) (S 40) (S 41) (S 42) (S 43) (S 44) (S 45) (S 46) (S 50 0) (S 48) (S 49) (S 55 0) (S 51) (S 52) (S 53) (S 54) a1 a2 = some (Sum.inr u) ∧ jX7_foresee (S 60 0) (S 61 0) (S 63 0) (S 64 0) (S 65 0) (S 67 0) (S 62) (S 66) (S 68) (S 69) (S 70) (S 71) (S 72) (S 73) a1 a2 = some q' ∧ r = (u.1, (up (up (up (up (up (up (up (up (up (up (up (up (up (up (up (up (up (up (up (up (up (up (up (up (up (up S 34 (fun _ => u.2.1)) 35 (fun _ => u.2.2.1)) 32 u.2.2.2.1) 33 u.2.2.2.2.1) 47 (fun _ => u.2.2.2.2.2.1)) 36 u.2.2.2.2.2.2.1) 37 u.2.2.2.2.2.2.2.1) 38 u.2.2.2.2.2.2.2.2.1) 39 u.2.2.2.2.2.2.2.2.2.1) 40 u.2.2.2.2.2.2.2.2.2.2.1) 41 u.2.2.2.2.2.2.2.2.2.2.2.1) 42 u.2.2.2.2.2.2.2.2.2.2.2.2.1) 43 u.2.2.2.2.2.2.2.2.2.2.2.2.2.1) 44 u.2.2.2.2.2.2.2.2.2.2.2.2.2.2.1) 45 u.2.2.2.2.2.2.2.2.2.2.2.2.2.2.2.1) 46 u.2.2.2.2.2.2.2.2.2.2.2.2.2.2.2.2.1) 50 (fun _ => u.2.2.2.2.2.2.2.2.2.2.2.2.2.2.2.2.2.1)) 48 u.2.2.2.2.2.2.2.2.2.2.2.2.2.2.2.2.2.2.1) 49 u.2.2.2.2.2.2.2.2.2.2.2.2.2.2.2.2.2.2.2.1) 55 (fun _ => u.2.2.2.2.2.2.2.2.2.2.2.2.2.2.2.2.2.2.2.2.1)) 51 u.2.2.2.2.2.2.2.2.2.2.2.2.2.2.2.2.2.2.2.2.2.1) 52 u.2.2.2.2.2.2.2.2.2.2.2.2.2.2.2.2.2.2.2.2.2.2.1) 53 u.2.2.2.2.2.2.2.2.2.2.2.2.2.2.2.2.2.2.2.2.2.2.2.1) 54 u.2.2.2.2.2.2.2.2.2.2.2.2.2.2.2.2.2.2.2.2.2.2.2.2) 60 (fun _ => q'.2.1)) 73 q'.2.2)) := by
  unfold op_foresee at h
  obtain ⟨q, hq, h⟩ := bnd_s h
  cases q with
  | inl k => cases h
  | inr u =>
    obtain ⟨q', hq', h⟩ := bnd_s h
    exact ⟨u, q', hq, hq', (Option.some.inj h).symm⟩
