/-! the calls of the law: what the class answers, op_X answers -/
def EK (S S' : Nat → Nat → Int32) : Prop := ∀ j, kok j = true → S' j = S j
theorem EK_r {S : Nat → Nat → Int32} : EK S S := fun _ _ => rfl
theorem EK_t {S S1 S2 : Nat → Nat → Int32} (h : EK S S1) (h' : EK S1 S2) : EK S S2 := fun j hj => (h' j hj).trans (h j hj)
theorem ox_addWater {S : Nat → Nat → Int32} {a1 a2 a3 a4 a5 a6 a7 : Int32} {u : Int32 × Int32 × (Nat → Int32) × (Nat → Int32) × (Nat → Int32) × (Nat → Int32)} (h : Rel S) (e : jX6_addWater (S 5 0) (S 1) (S 2) (S 3) (S 4) a1 a2 a3 a4 a5 a6 a7 = some (Sum.inr u)) : ∃ q', jX7_addWater (S 60 0) (S 61 0) (S 62) a1 a2 a3 a4 a5 a6 a7 = some q' ∧ op_addWater S a1 a2 a3 a4 a5 a6 a7 = some (u.1, (up (up (up (up (up (up (up (up S 5 (fun _ => u.2.1)) 1 u.2.2.1) 2 u.2.2.2.1) 3 u.2.2.2.2.1) 4 u.2.2.2.2.2) 60 (fun _ => q'.2.1)) 61 (fun _ => q'.2.2.1)) 62 q'.2.2.2)) ∧ Rel (up (up (up (up (up (up (up (up S 5 (fun _ => u.2.1)) 1 u.2.2.1) 2 u.2.2.2.1) 3 u.2.2.2.2.1) 4 u.2.2.2.2.2) 60 (fun _ => q'.2.1)) 61 (fun _ => q'.2.2.1)) 62 q'.2.2.2) := by
  obtain ⟨q, q', h1, h2, -, -, h5⟩ := sim_addWater S a1 a2 a3 a4 a5 a6 a7 h
  rw [e] at h1
  obtain rfl := Option.some.inj h1
  refine ⟨q', h2, ?_, (h5 u rfl).2⟩
  unfold op_addWater
  rw [e, bnd_n, sel_b, h2, bnd_n]
theorem ox_setWind {S : Nat → Nat → Int32} {a1 a2 : Int32} {u : Int32 × Int32 × Int32} (h : Rel S) (e : jX6_setWind (S 6 0) (S 7 0) a1 a2 = some (Sum.inr u)) : ∃ q', jX7_setWind (S 60 0) (S 63 0) (S 64 0) a1 a2 = some q' ∧ op_setWind S a1 a2 = some (u.1, (up (up (up (up (up S 6 (fun _ => u.2.1)) 7 (fun _ => u.2.2)) 60 (fun _ => q'.2.1)) 63 (fun _ => q'.2.2.1)) 64 (fun _ => q'.2.2.2))) ∧ Rel (up (up (up (up (up S 6 (fun _ => u.2.1)) 7 (fun _ => u.2.2)) 60 (fun _ => q'.2.1)) 63 (fun _ => q'.2.2.1)) 64 (fun _ => q'.2.2.2)) := by
  obtain ⟨q, q', h1, h2, -, -, h5⟩ := sim_setWind S a1 a2 h
  rw [e] at h1
  obtain rfl := Option.some.inj h1
  refine ⟨q', h2, ?_, (h5 u rfl).2⟩
  unfold op_setWind
  rw [e, bnd_n, sel_b, h2, bnd_n]
theorem ox_addBarrel {S : Nat → Nat → Int32} {a1 a2 a3 a4 : Int32} {u : Int32 × Int32 × (Nat → Int32) × (Nat → Int32) × (Nat → Int32) × (Nat → Int32) × (Nat → Int32) × (Nat → Int32) × (Nat → Int32)} (h : Rel S) (e : jX6_addBarrel (S 23 0) (S 12) (S 13) (S 14) (S 15) (S 19) (S 20) (S 21) (S 22) a1 a2 a3 a4 = some (Sum.inr u)) : ∃ q', jX7_addBarrel (S 60 0) (S 65 0) (S 66) (S 68) a1 a2 a3 a4 = some q' ∧ op_addBarrel S a1 a2 a3 a4 = some (u.1, (up (up (up (up (up (up (up (up (up (up (up (up S 23 (fun _ => u.2.1)) 12 u.2.2.1) 13 u.2.2.2.1) 14 u.2.2.2.2.1) 15 u.2.2.2.2.2.1) 20 u.2.2.2.2.2.2.1) 21 u.2.2.2.2.2.2.2.1) 22 u.2.2.2.2.2.2.2.2) 60 (fun _ => q'.2.1)) 65 (fun _ => q'.2.2.1)) 66 q'.2.2.2.1) 68 q'.2.2.2.2)) ∧ Rel (up (up (up (up (up (up (up (up (up (up (up (up S 23 (fun _ => u.2.1)) 12 u.2.2.1) 13 u.2.2.2.1) 14 u.2.2.2.2.1) 15 u.2.2.2.2.2.1) 20 u.2.2.2.2.2.2.1) 21 u.2.2.2.2.2.2.2.1) 22 u.2.2.2.2.2.2.2.2) 60 (fun _ => q'.2.1)) 65 (fun _ => q'.2.2.1)) 66 q'.2.2.2.1) 68 q'.2.2.2.2) := by
  obtain ⟨q, q', h1, h2, -, -, h5⟩ := sim_addBarrel S a1 a2 a3 a4 h
  rw [e] at h1
  obtain rfl := Option.some.inj h1
  refine ⟨q', h2, ?_, (h5 u rfl).2⟩
  unfold op_addBarrel
  rw [e, bnd_n, sel_b, h2, bnd_n]
theorem ox_tie {S : Nat → Nat → Int32} {a1 a2 a3 : Int32} {u : Int32 × Int32 × (Nat → Int32) × Int32 × (Nat → Int32) × (Nat → Int32) × (Nat → Int32) × (Nat → Int32)} (h : Rel S) (e : jX6_tie (S 0 0) (S 23 0) (S 12) (S 13) (S 19) (S 20) (S 21) (S 22) (S 31 0) (S 27) (S 28) (S 29) (S 30) a1 a2 a3 = some (Sum.inr u)) : ∃ q', jX7_tie (S 60 0) (S 65 0) (S 66) (S 68) (S 69) (S 70) (S 72) a1 a2 a3 = some q' ∧ op_tie S a1 a2 a3 = some (u.1, (up (up (up (up (up (up (up (up (up (up (up S 0 (fun _ => u.2.1)) 22 u.2.2.1) 31 (fun _ => u.2.2.2.1)) 27 u.2.2.2.2.1) 28 u.2.2.2.2.2.1) 29 u.2.2.2.2.2.2.1) 30 u.2.2.2.2.2.2.2) 60 (fun _ => q'.2.1)) 69 q'.2.2.1) 70 q'.2.2.2.1) 72 q'.2.2.2.2)) ∧ Rel (up (up (up (up (up (up (up (up (up (up (up S 0 (fun _ => u.2.1)) 22 u.2.2.1) 31 (fun _ => u.2.2.2.1)) 27 u.2.2.2.2.1) 28 u.2.2.2.2.2.1) 29 u.2.2.2.2.2.2.1) 30 u.2.2.2.2.2.2.2) 60 (fun _ => q'.2.1)) 69 q'.2.2.1) 70 q'.2.2.2.1) 72 q'.2.2.2.2) := by
  obtain ⟨q, q', h1, h2, -, -, h5⟩ := sim_tie S a1 a2 a3 h
  rw [e] at h1
  obtain rfl := Option.some.inj h1
  refine ⟨q', h2, ?_, (h5 u rfl).2⟩
  unfold op_tie
  rw [e, bnd_n, sel_b, h2, bnd_n]
theorem ox_cut {S : Nat → Nat → Int32} {a1 a2 : Int32} {u : Int32 × Int32 × (Nat → Int32) × Int32 × (Nat → Int32) × (Nat → Int32) × (Nat → Int32) × (Nat → Int32)} (h : Rel S) (e : jX6_cut (S 0 0) (S 23 0) (S 19) (S 22) (S 31 0) (S 27) (S 28) (S 29) (S 30) a1 a2 = some (Sum.inr u)) : ∃ q', jX7_cut (S 60 0) (S 65 0) (S 69) (S 70) (S 72) a1 a2 = some q' ∧ op_cut S a1 a2 = some (u.1, (up (up (up (up (up (up (up (up (up (up (up S 0 (fun _ => u.2.1)) 22 u.2.2.1) 31 (fun _ => u.2.2.2.1)) 27 u.2.2.2.2.1) 28 u.2.2.2.2.2.1) 29 u.2.2.2.2.2.2.1) 30 u.2.2.2.2.2.2.2) 60 (fun _ => q'.2.1)) 69 q'.2.2.1) 70 q'.2.2.2.1) 72 q'.2.2.2.2)) ∧ Rel (up (up (up (up (up (up (up (up (up (up (up S 0 (fun _ => u.2.1)) 22 u.2.2.1) 31 (fun _ => u.2.2.2.1)) 27 u.2.2.2.2.1) 28 u.2.2.2.2.2.1) 29 u.2.2.2.2.2.2.1) 30 u.2.2.2.2.2.2.2) 60 (fun _ => q'.2.1)) 69 q'.2.2.1) 70 q'.2.2.2.1) 72 q'.2.2.2.2) := by
  obtain ⟨q, q', h1, h2, -, -, h5⟩ := sim_cut S a1 a2 h
  rw [e] at h1
  obtain rfl := Option.some.inj h1
  refine ⟨q', h2, ?_, (h5 u rfl).2⟩
  unfold op_cut
  rw [e, bnd_n, sel_b, h2, bnd_n]
theorem ox_load {S : Nat → Nat → Int32} {a1 a2 : Int32} {u : Int32 × (Nat → Int32)} (h : Rel S) (e : jX6_load (S 23 0) (S 17) (S 19) a1 a2 = some (Sum.inr u)) : ∃ q', jX7_load (S 60 0) (S 65 0) (S 68) a1 a2 = some q' ∧ op_load S a1 a2 = some (u.1, (up (up (up S 17 u.2) 60 (fun _ => q'.2.1)) 68 q'.2.2)) ∧ Rel (up (up (up S 17 u.2) 60 (fun _ => q'.2.1)) 68 q'.2.2) := by
  obtain ⟨q, q', h1, h2, -, -, h5⟩ := sim_load S a1 a2 h
  rw [e] at h1
  obtain rfl := Option.some.inj h1
  refine ⟨q', h2, ?_, (h5 u rfl).2⟩
  unfold op_load
  rw [e, bnd_n, sel_b, h2, bnd_n]
theorem ox_barrel {S : Nat → Nat → Int32} {a1 a2 : Int32} {u : Int32} (h : Rel S) (e : jX6_barrel (S 23 0) (S 12) (S 13) (S 14) (S 15) (S 16) (S 17) (S 18) (S 19) (S 20) (S 21) (S 22) (S 31 0) (S 27) (S 28) a1 a2 = some (Sum.inr u)) : ∃ q', jX7_barrel (S 60 0) (S 65 0) (S 67 0) (S 66) (S 68) (S 69) (S 71) (S 73) a1 a2 = some q' ∧ op_barrel S a1 a2 = some (u, (up (up S 60 (fun _ => q'.2.1)) 73 q'.2.2)) ∧ Rel (up (up S 60 (fun _ => q'.2.1)) 73 q'.2.2) := by
  obtain ⟨q, q', h1, h2, -, -, h5⟩ := sim_barrel S a1 a2 h
  rw [e] at h1
  obtain rfl := Option.some.inj h1
  refine ⟨q', h2, ?_, (h5 u rfl).2⟩
  unfold op_barrel
  rw [e, bnd_n, sel_b, h2, bnd_n]
theorem oy_barrel {S : Nat → Nat → Int32} {a1 a2 : Int32} {u : Int32} (h : Rel S) (e : jX6_barrel (S 23 0) (S 12) (S 13) (S 14) (S 15) (S 16) (S 17) (S 18) (S 19) (S 20) (S 21) (S 22) (S 31 0) (S 27) (S 28) a1 a2 = some (Sum.inr u)) : ∃ S', op_barrel S a1 a2 = some (u, S') ∧ EK S S' := by
  obtain ⟨q', -, h2, -⟩ := ox_barrel h e
  exact ⟨_, h2, fun j hj => (up_no hj rfl).trans (up_no hj rfl)⟩
theorem ox_lashing {S : Nat → Nat → Int32} {a1 a2 a3 : Int32} {u : Int32} (h : Rel S) (e : jX6_lashing (S 5 0) (S 3) (S 4) (S 23 0) (S 17) (S 18) (S 20) (S 21) (S 31 0) (S 27) (S 28) (S 29) (S 30) a1 a2 a3 = some (Sum.inr u)) : ∃ q', jX7_lashing (S 60 0) (S 61 0) (S 65 0) (S 67 0) (S 62) (S 68) (S 69) (S 70) (S 71) a1 a2 a3 = some q' ∧ op_lashing S a1 a2 a3 = some (u, (up S 60 (fun _ => q'.2))) ∧ Rel (up S 60 (fun _ => q'.2)) := by
  obtain ⟨q, q', h1, h2, -, -, h5⟩ := sim_lashing S a1 a2 a3 h
  rw [e] at h1
  obtain rfl := Option.some.inj h1
  refine ⟨q', h2, ?_, (h5 u rfl).2⟩
  unfold op_lashing
  rw [e, bnd_n, sel_b, h2, bnd_n]
theorem oy_lashing {S : Nat → Nat → Int32} {a1 a2 a3 : Int32} {u : Int32} (h : Rel S) (e : jX6_lashing (S 5 0) (S 3) (S 4) (S 23 0) (S 17) (S 18) (S 20) (S 21) (S 31 0) (S 27) (S 28) (S 29) (S 30) a1 a2 a3 = some (Sum.inr u)) : ∃ S', op_lashing S a1 a2 a3 = some (u, S') ∧ EK S S' := by
  obtain ⟨q', -, h2, -⟩ := ox_lashing h e
  exact ⟨_, h2, fun j hj => up_no hj rfl⟩
theorem ox_addCastaway {S : Nat → Nat → Int32} {a1 : Int32} {u : Int32 × (Nat → Int32) × Int32 × (Nat → Int32) × (Nat → Int32)} (h : Rel S) (e : jX6_addCastaway (S 23 0) (S 18) (S 19) (S 26 0) (S 24) (S 25) a1 = some (Sum.inr u)) : ∃ q', jX7_addCastaway (S 60 0) (S 65 0) (S 67 0) (S 68) (S 71) a1 = some q' ∧ op_addCastaway S a1 = some (u.1, (up (up (up (up (up (up (up S 18 u.2.1) 26 (fun _ => u.2.2.1)) 24 u.2.2.2.1) 25 u.2.2.2.2) 60 (fun _ => q'.2.1)) 67 (fun _ => q'.2.2.1)) 71 q'.2.2.2)) ∧ Rel (up (up (up (up (up (up (up S 18 u.2.1) 26 (fun _ => u.2.2.1)) 24 u.2.2.2.1) 25 u.2.2.2.2) 60 (fun _ => q'.2.1)) 67 (fun _ => q'.2.2.1)) 71 q'.2.2.2) := by
  obtain ⟨q, q', h1, h2, -, -, h5⟩ := sim_addCastaway S a1 h
  rw [e] at h1
  obtain rfl := Option.some.inj h1
  refine ⟨q', h2, ?_, (h5 u rfl).2⟩
  unfold op_addCastaway
  rw [e, bnd_n, sel_b, h2, bnd_n]
theorem ox_go {S : Nat → Nat → Int32} {a1 a2 : Int32} {u : Int32 × (Nat → Int32) × (Nat → Int32)} (h : Rel S) (e : jX6_go (S 23 0) (S 18) (S 26 0) (S 24) (S 31 0) (S 27) (S 28) a1 a2 = some (Sum.inr u)) : ∃ q', jX7_go (S 60 0) (S 65 0) (S 67 0) (S 69) (S 71) a1 a2 = some q' ∧ op_go S a1 a2 = some (u.1, (up (up (up (up S 18 u.2.1) 24 u.2.2) 60 (fun _ => q'.2.1)) 71 q'.2.2)) ∧ Rel (up (up (up (up S 18 u.2.1) 24 u.2.2) 60 (fun _ => q'.2.1)) 71 q'.2.2) := by
  obtain ⟨q, q', h1, h2, -, -, h5⟩ := sim_go S a1 a2 h
  rw [e] at h1
  obtain rfl := Option.some.inj h1
  refine ⟨q', h2, ?_, (h5 u rfl).2⟩
  unfold op_go
  rw [e, bnd_n, sel_b, h2, bnd_n]
theorem ox_bail {S : Nat → Nat → Int32} {a1 : Int32} {u : Int32 × (Nat → Int32)} (h : Rel S) (e : jX6_bail (S 23 0) (S 16) (S 26 0) (S 24) a1 = some (Sum.inr u)) : ∃ q', jX7_bail (S 60 0) (S 67 0) (S 68) (S 71) a1 = some q' ∧ op_bail S a1 = some (u.1, (up (up (up S 16 u.2) 60 (fun _ => q'.2.1)) 68 q'.2.2)) ∧ Rel (up (up (up S 16 u.2) 60 (fun _ => q'.2.1)) 68 q'.2.2) := by
  obtain ⟨q, q', h1, h2, -, -, h5⟩ := sim_bail S a1 h
  rw [e] at h1
  obtain rfl := Option.some.inj h1
  refine ⟨q', h2, ?_, (h5 u rfl).2⟩
  unfold op_bail
  rw [e, bnd_n, sel_b, h2, bnd_n]
theorem ox_castaway {S : Nat → Nat → Int32} {a1 a2 : Int32} {u : Int32} (h : Rel S) (e : jX6_castaway (S 26 0) (S 24) (S 25) a1 a2 = some (Sum.inr u)) : ∃ q', jX7_castaway (S 60 0) (S 67 0) (S 71) a1 a2 = some q' ∧ op_castaway S a1 a2 = some (u, (up S 60 (fun _ => q'.2))) ∧ Rel (up S 60 (fun _ => q'.2)) := by
  obtain ⟨q, q', h1, h2, -, -, h5⟩ := sim_castaway S a1 a2 h
  rw [e] at h1
  obtain rfl := Option.some.inj h1
  refine ⟨q', h2, ?_, (h5 u rfl).2⟩
  unfold op_castaway
  rw [e, bnd_n, sel_b, h2, bnd_n]
theorem oy_castaway {S : Nat → Nat → Int32} {a1 a2 : Int32} {u : Int32} (h : Rel S) (e : jX6_castaway (S 26 0) (S 24) (S 25) a1 a2 = some (Sum.inr u)) : ∃ S', op_castaway S a1 a2 = some (u, S') ∧ EK S S' := by
  obtain ⟨q', -, h2, -⟩ := ox_castaway h e
  exact ⟨_, h2, fun j hj => up_no hj rfl⟩
theorem ox_pass {S : Nat → Nat → Int32} {a1 : Int32} {u : Int32 × Int32 × Int32 × (Nat → Int32) × (Nat → Int32) × (Nat → Int32) × (Nat → Int32) × (Nat → Int32) × (Nat → Int32) × (Nat → Int32) × (Nat → Int32) × (Nat → Int32) × (Nat → Int32) × (Nat → Int32) × Int32 × (Nat → Int32) × (Nat → Int32) × (Nat → Int32) × (Nat → Int32)} (h : Rel S) (e : jX6_pass (S 5 0) (S 6 0) (S 7 0) (S 1) (S 2) (S 3) (S 4) (S 10 0) (S 11 0) (S 8) (S 9) (S 23 0) (S 14) (S 15) (S 16) (S 17) (S 18) (S 19) (S 20) (S 21) (S 22) (S 26 0) (S 24) (S 25) (S 31 0) (S 27) (S 28) (S 29) (S 30) a1 = some (Sum.inr u)) : ∃ q', jX7_pass (S 60 0) (S 61 0) (S 63 0) (S 64 0) (S 65 0) (S 67 0) (S 62) (S 66) (S 68) (S 69) (S 70) (S 71) (S 72) (S 73) a1 = some q' ∧ op_pass S a1 = some (u.1, (up (up (up (up (up (up (up (up (up (up (up (up (up (up (up (up (up (up (up (up (up (up (up (up (up S 10 (fun _ => u.2.1)) 11 (fun _ => u.2.2.1)) 8 u.2.2.2.1) 9 u.2.2.2.2.1) 16 u.2.2.2.2.2.1) 17 u.2.2.2.2.2.2.1) 18 u.2.2.2.2.2.2.2.1) 19 u.2.2.2.2.2.2.2.2.1) 20 u.2.2.2.2.2.2.2.2.2.1) 21 u.2.2.2.2.2.2.2.2.2.2.1) 22 u.2.2.2.2.2.2.2.2.2.2.2.1) 24 u.2.2.2.2.2.2.2.2.2.2.2.2.1) 25 u.2.2.2.2.2.2.2.2.2.2.2.2.2.1) 31 (fun _ => u.2.2.2.2.2.2.2.2.2.2.2.2.2.2.1)) 27 u.2.2.2.2.2.2.2.2.2.2.2.2.2.2.2.1) 28 u.2.2.2.2.2.2.2.2.2.2.2.2.2.2.2.2.1) 29 u.2.2.2.2.2.2.2.2.2.2.2.2.2.2.2.2.2.1) 30 u.2.2.2.2.2.2.2.2.2.2.2.2.2.2.2.2.2.2) 60 (fun _ => q'.2.1)) 68 q'.2.2.1) 69 q'.2.2.2.1) 70 q'.2.2.2.2.1) 71 q'.2.2.2.2.2.1) 72 q'.2.2.2.2.2.2.1) 73 q'.2.2.2.2.2.2.2)) ∧ Rel (up (up (up (up (up (up (up (up (up (up (up (up (up (up (up (up (up (up (up (up (up (up (up (up (up S 10 (fun _ => u.2.1)) 11 (fun _ => u.2.2.1)) 8 u.2.2.2.1) 9 u.2.2.2.2.1) 16 u.2.2.2.2.2.1) 17 u.2.2.2.2.2.2.1) 18 u.2.2.2.2.2.2.2.1) 19 u.2.2.2.2.2.2.2.2.1) 20 u.2.2.2.2.2.2.2.2.2.1) 21 u.2.2.2.2.2.2.2.2.2.2.1) 22 u.2.2.2.2.2.2.2.2.2.2.2.1) 24 u.2.2.2.2.2.2.2.2.2.2.2.2.1) 25 u.2.2.2.2.2.2.2.2.2.2.2.2.2.1) 31 (fun _ => u.2.2.2.2.2.2.2.2.2.2.2.2.2.2.1)) 27 u.2.2.2.2.2.2.2.2.2.2.2.2.2.2.2.1) 28 u.2.2.2.2.2.2.2.2.2.2.2.2.2.2.2.2.1) 29 u.2.2.2.2.2.2.2.2.2.2.2.2.2.2.2.2.2.1) 30 u.2.2.2.2.2.2.2.2.2.2.2.2.2.2.2.2.2.2) 60 (fun _ => q'.2.1)) 68 q'.2.2.1) 69 q'.2.2.2.1) 70 q'.2.2.2.2.1) 71 q'.2.2.2.2.2.1) 72 q'.2.2.2.2.2.2.1) 73 q'.2.2.2.2.2.2.2) := by
  obtain ⟨q, q', h1, h2, -, -, h5⟩ := sim_pass S a1 h
  rw [e] at h1
  obtain rfl := Option.some.inj h1
  refine ⟨q', h2, ?_, (h5 u rfl).2⟩
  unfold op_pass
  rw [e, bnd_n, sel_b, h2, bnd_n]
theorem ox_count {S : Nat → Nat → Int32} {a1 : Int32} {u : Int32} (h : Rel S) (e : jX6_count (S 0 0) (S 10 0) (S 11 0) (S 23 0) (S 17) (S 19) (S 22) (S 26 0) (S 25) (S 31 0) a1 = some (Sum.inr u)) : ∃ q', jX7_count (S 60 0) (S 65 0) (S 67 0) (S 68) (S 69) (S 71) (S 72) (S 73) a1 = some q' ∧ op_count S a1 = some (u, (up (up S 60 (fun _ => q'.2.1)) 73 q'.2.2)) ∧ Rel (up (up S 60 (fun _ => q'.2.1)) 73 q'.2.2) := by
  obtain ⟨q, q', h1, h2, -, -, h5⟩ := sim_count S a1 h
  rw [e] at h1
  obtain rfl := Option.some.inj h1
  refine ⟨q', h2, ?_, (h5 u rfl).2⟩
  unfold op_count
  rw [e, bnd_n, sel_b, h2, bnd_n]
theorem oy_count {S : Nat → Nat → Int32} {a1 : Int32} {u : Int32} (h : Rel S) (e : jX6_count (S 0 0) (S 10 0) (S 11 0) (S 23 0) (S 17) (S 19) (S 22) (S 26 0) (S 25) (S 31 0) a1 = some (Sum.inr u)) : ∃ S', op_count S a1 = some (u, S') ∧ EK S S' := by
  obtain ⟨q', -, h2, -⟩ := ox_count h e
  exact ⟨_, h2, fun j hj => (up_no hj rfl).trans (up_no hj rfl)⟩
theorem ox_firm {S : Nat → Nat → Int32} {a1 a2 : Int32} {u : Int32 × (Nat → Int32) × (Nat → Int32) × (Nat → Int32)} (h : Rel S) (e : jX6_firm (S 23 0) (S 31 0) (S 27) (S 28) (S 56) (S 57) (S 58) a1 a2 = some (Sum.inr u)) : ∃ q', jX7_firm (S 60 0) (S 65 0) (S 69) (S 74) (S 75) (S 76) a1 a2 = some q' ∧ op_firm S a1 a2 = some (u.1, (up (up (up (up (up (up (up S 56 u.2.1) 57 u.2.2.1) 58 u.2.2.2) 60 (fun _ => q'.2.1)) 74 q'.2.2.1) 75 q'.2.2.2.1) 76 q'.2.2.2.2)) ∧ Rel (up (up (up (up (up (up (up S 56 u.2.1) 57 u.2.2.1) 58 u.2.2.2) 60 (fun _ => q'.2.1)) 74 q'.2.2.1) 75 q'.2.2.2.1) 76 q'.2.2.2.2) := by
  obtain ⟨q, q', h1, h2, -, -, h5⟩ := sim_firm S a1 a2 h
  rw [e] at h1
  obtain rfl := Option.some.inj h1
  refine ⟨q', h2, ?_, (h5 u rfl).2⟩
  unfold op_firm
  rw [e, bnd_n, sel_b, h2, bnd_n]
theorem oy_firm {S : Nat → Nat → Int32} {a1 a2 : Int32} {u : Int32 × (Nat → Int32) × (Nat → Int32) × (Nat → Int32)} (h : Rel S) (e : jX6_firm (S 23 0) (S 31 0) (S 27) (S 28) (S 56) (S 57) (S 58) a1 a2 = some (Sum.inr u)) : ∃ S', op_firm S a1 a2 = some (u.1, S') ∧ EK S S' := by
  obtain ⟨q', -, h2, -⟩ := ox_firm h e
  exact ⟨_, h2, fun j hj => (up_no hj rfl).trans ((up_no hj rfl).trans ((up_no hj rfl).trans ((up_no hj rfl).trans ((up_no hj rfl).trans ((up_no hj rfl).trans (up_no hj rfl))))))⟩
theorem ox_hold {S : Nat → Nat → Int32} {a1 a2 : Int32} {u : Int32 × (Nat → Int32)} (h : Rel S) (e : jX6_hold (S 23 0) (S 31 0) (S 27) (S 28) (S 29) (S 30) (S 59) a1 a2 = some (Sum.inr u)) : ∃ q', jX7_hold (S 60 0) (S 65 0) (S 69) (S 70) (S 77) a1 a2 = some q' ∧ op_hold S a1 a2 = some (u.1, (up (up (up S 59 u.2) 60 (fun _ => q'.2.1)) 77 q'.2.2)) ∧ Rel (up (up (up S 59 u.2) 60 (fun _ => q'.2.1)) 77 q'.2.2) := by
  obtain ⟨q, q', h1, h2, -, -, h5⟩ := sim_hold S a1 a2 h
  rw [e] at h1
  obtain rfl := Option.some.inj h1
  refine ⟨q', h2, ?_, (h5 u rfl).2⟩
  unfold op_hold
  rw [e, bnd_n, sel_b, h2, bnd_n]
theorem oy_hold {S : Nat → Nat → Int32} {a1 a2 : Int32} {u : Int32 × (Nat → Int32)} (h : Rel S) (e : jX6_hold (S 23 0) (S 31 0) (S 27) (S 28) (S 29) (S 30) (S 59) a1 a2 = some (Sum.inr u)) : ∃ S', op_hold S a1 a2 = some (u.1, S') ∧ EK S S' := by
  obtain ⟨q', -, h2, -⟩ := ox_hold h e
  exact ⟨_, h2, fun j hj => (up_no hj rfl).trans ((up_no hj rfl).trans (up_no hj rfl))⟩
theorem ox_piece {S : Nat → Nat → Int32} {a1 a2 : Int32} {u : Int32 × (Nat → Int32) × (Nat → Int32) × (Nat → Int32)} (h : Rel S) (e : jX6_piece (S 23 0) (S 14) (S 16) (S 17) (S 18) (S 22) (S 31 0) (S 27) (S 28) (S 56) (S 57) (S 58) a1 a2 = some (Sum.inr u)) : ∃ q', jX7_piece (S 60 0) (S 65 0) (S 67 0) (S 66) (S 68) (S 69) (S 70) (S 71) (S 73) (S 77) a1 a2 = some q' ∧ op_piece S a1 a2 = some (u.1, (up (up (up (up (up (up S 56 u.2.1) 57 u.2.2.1) 58 u.2.2.2) 60 (fun _ => q'.2.1)) 73 q'.2.2.1) 77 q'.2.2.2)) ∧ Rel (up (up (up (up (up (up S 56 u.2.1) 57 u.2.2.1) 58 u.2.2.2) 60 (fun _ => q'.2.1)) 73 q'.2.2.1) 77 q'.2.2.2) := by
  obtain ⟨q, q', h1, h2, -, -, h5⟩ := sim_piece S a1 a2 h
  rw [e] at h1
  obtain rfl := Option.some.inj h1
  refine ⟨q', h2, ?_, (h5 u rfl).2⟩
  unfold op_piece
  rw [e, bnd_n, sel_b, h2, bnd_n]
theorem oy_piece {S : Nat → Nat → Int32} {a1 a2 : Int32} {u : Int32 × (Nat → Int32) × (Nat → Int32) × (Nat → Int32)} (h : Rel S) (e : jX6_piece (S 23 0) (S 14) (S 16) (S 17) (S 18) (S 22) (S 31 0) (S 27) (S 28) (S 56) (S 57) (S 58) a1 a2 = some (Sum.inr u)) : ∃ S', op_piece S a1 a2 = some (u.1, S') ∧ EK S S' := by
  obtain ⟨q', -, h2, -⟩ := ox_piece h e
  exact ⟨_, h2, fun j hj => (up_no hj rfl).trans ((up_no hj rfl).trans ((up_no hj rfl).trans ((up_no hj rfl).trans ((up_no hj rfl).trans (up_no hj rfl)))))⟩
theorem ox_foresee {S : Nat → Nat → Int32} {a1 a2 : Int32} {u : Int32 × Int32 × Int32 × (Nat → Int32) × (Nat → Int32) × Int32 × (Nat → Int32) × (Nat → Int32) × (Nat → Int32) × (Nat → Int32) × (Nat → Int32) × (Nat → Int32) × (Nat → Int32) × (Nat → Int32) × (Nat → Int32) × (Nat → Int32) × (Nat → Int32) × Int32 × (Nat → Int32) × (Nat → Int32) × Int32 × (Nat → Int32) × (Nat → Int32) × (Nat → Int32) × (Nat → Int32)} (h : Rel S) (e : jX6_foresee (S 5 0) (S 6 0) (S 7 0) (S 1) (S 2) (S 3) (S 4) (S 10 0) (S 11 0) (S 23 0) (S 12) (S 13) (S 14) (S 15) (S 16) (S 17) (S 18) (S 19) (S 20) (S 21) (S 22) (S 26 0) (S 24) (S 25) (S 31 0) (S 27) (S 28) (S 29) (S 30) (S 34 0) (S 35 0) (S 32) (S 33) (S 47 0) (S 36) (S 37) (S 38) (S 39) (S 40) (S 41) (S 42) (S 43) (S 44) (S 45) (S 46) (S 50 0) (S 48) (S 49) (S 55 0) (S 51) (S 52) (S 53) (S 54) a1 a2 = some (Sum.inr u)) : ∃ q', jX7_foresee (S 60 0) (S 61 0) (S 63 0) (S 64 0) (S 65 0) (S 67 0) (S 62) (S 66) (S 68) (S 69) (S 70) (S 71) (S 72) (S 73) a1 a2 = some q' ∧ op_foresee S a1 a2 = some (u.1, (up (up (up (up (up (up (up (up (up (up (up (up (up (up (up (up (up (up (up (up (up (up (up (up (up (up S 34 (fun _ => u.2.1)) 35 (fun _ => u.2.2.1)) 32 u.2.2.2.1) 33 u.2.2.2.2.1) 47 (fun _ => u.2.2.2.2.2.1)) 36 u.2.2.2.2.2.2.1) 37 u.2.2.2.2.2.2.2.1) 38 u.2.2.2.2.2.2.2.2.1) 39 u.2.2.2.2.2.2.2.2.2.1) 40 u.2.2.2.2.2.2.2.2.2.2.1) 41 u.2.2.2.2.2.2.2.2.2.2.2.1) 42 u.2.2.2.2.2.2.2.2.2.2.2.2.1) 43 u.2.2.2.2.2.2.2.2.2.2.2.2.2.1) 44 u.2.2.2.2.2.2.2.2.2.2.2.2.2.2.1) 45 u.2.2.2.2.2.2.2.2.2.2.2.2.2.2.2.1) 46 u.2.2.2.2.2.2.2.2.2.2.2.2.2.2.2.2.1) 50 (fun _ => u.2.2.2.2.2.2.2.2.2.2.2.2.2.2.2.2.2.1)) 48 u.2.2.2.2.2.2.2.2.2.2.2.2.2.2.2.2.2.2.1) 49 u.2.2.2.2.2.2.2.2.2.2.2.2.2.2.2.2.2.2.2.1) 55 (fun _ => u.2.2.2.2.2.2.2.2.2.2.2.2.2.2.2.2.2.2.2.2.1)) 51 u.2.2.2.2.2.2.2.2.2.2.2.2.2.2.2.2.2.2.2.2.2.1) 52 u.2.2.2.2.2.2.2.2.2.2.2.2.2.2.2.2.2.2.2.2.2.2.1) 53 u.2.2.2.2.2.2.2.2.2.2.2.2.2.2.2.2.2.2.2.2.2.2.2.1) 54 u.2.2.2.2.2.2.2.2.2.2.2.2.2.2.2.2.2.2.2.2.2.2.2.2) 60 (fun _ => q'.2.1)) 73 q'.2.2)) ∧ Rel (up (up (up (up (up (up (up (up (up (up (up (up (up (up (up (up (up (up (up (up (up (up (up (up (up (up S 34 (fun _ => u.2.1)) 35 (fun _ => u.2.2.1)) 32 u.2.2.2.1) 33 u.2.2.2.2.1) 47 (fun _ => u.2.2.2.2.2.1)) 36 u.2.2.2.2.2.2.1) 37 u.2.2.2.2.2.2.2.1) 38 u.2.2.2.2.2.2.2.2.1) 39 u.2.2.2.2.2.2.2.2.2.1) 40 u.2.2.2.2.2.2.2.2.2.2.1) 41 u.2.2.2.2.2.2.2.2.2.2.2.1) 42 u.2.2.2.2.2.2.2.2.2.2.2.2.1) 43 u.2.2.2.2.2.2.2.2.2.2.2.2.2.1) 44 u.2.2.2.2.2.2.2.2.2.2.2.2.2.2.1) 45 u.2.2.2.2.2.2.2.2.2.2.2.2.2.2.2.1) 46 u.2.2.2.2.2.2.2.2.2.2.2.2.2.2.2.2.1) 50 (fun _ => u.2.2.2.2.2.2.2.2.2.2.2.2.2.2.2.2.2.1)) 48 u.2.2.2.2.2.2.2.2.2.2.2.2.2.2.2.2.2.2.1) 49 u.2.2.2.2.2.2.2.2.2.2.2.2.2.2.2.2.2.2.2.1) 55 (fun _ => u.2.2.2.2.2.2.2.2.2.2.2.2.2.2.2.2.2.2.2.2.1)) 51 u.2.2.2.2.2.2.2.2.2.2.2.2.2.2.2.2.2.2.2.2.2.1) 52 u.2.2.2.2.2.2.2.2.2.2.2.2.2.2.2.2.2.2.2.2.2.2.1) 53 u.2.2.2.2.2.2.2.2.2.2.2.2.2.2.2.2.2.2.2.2.2.2.2.1) 54 u.2.2.2.2.2.2.2.2.2.2.2.2.2.2.2.2.2.2.2.2.2.2.2.2) 60 (fun _ => q'.2.1)) 73 q'.2.2) := by
  obtain ⟨q, q', h1, h2, -, -, h5⟩ := sim_foresee S a1 a2 h
  rw [e] at h1
  obtain rfl := Option.some.inj h1
  refine ⟨q', h2, ?_, (h5 u rfl).2⟩
  unfold op_foresee
  rw [e, bnd_n, sel_b, h2, bnd_n]
theorem oy_foresee {S : Nat → Nat → Int32} {a1 a2 : Int32} {u : Int32 × Int32 × Int32 × (Nat → Int32) × (Nat → Int32) × Int32 × (Nat → Int32) × (Nat → Int32) × (Nat → Int32) × (Nat → Int32) × (Nat → Int32) × (Nat → Int32) × (Nat → Int32) × (Nat → Int32) × (Nat → Int32) × (Nat → Int32) × (Nat → Int32) × Int32 × (Nat → Int32) × (Nat → Int32) × Int32 × (Nat → Int32) × (Nat → Int32) × (Nat → Int32) × (Nat → Int32)} (h : Rel S) (e : jX6_foresee (S 5 0) (S 6 0) (S 7 0) (S 1) (S 2) (S 3) (S 4) (S 10 0) (S 11 0) (S 23 0) (S 12) (S 13) (S 14) (S 15) (S 16) (S 17) (S 18) (S 19) (S 20) (S 21) (S 22) (S 26 0) (S 24) (S 25) (S 31 0) (S 27) (S 28) (S 29) (S 30) (S 34 0) (S 35 0) (S 32) (S 33) (S 47 0) (S 36) (S 37) (S 38) (S 39) (S 40) (S 41) (S 42) (S 43) (S 44) (S 45) (S 46) (S 50 0) (S 48) (S 49) (S 55 0) (S 51) (S 52) (S 53) (S 54) a1 a2 = some (Sum.inr u)) : ∃ S', op_foresee S a1 a2 = some (u.1, S') ∧ EK S S' := by
  obtain ⟨q', -, h2, -⟩ := ox_foresee h e
  exact ⟨_, h2, fun j hj => (up_no hj rfl).trans ((up_no hj rfl).trans ((up_no hj rfl).trans ((up_no hj rfl).trans ((up_no hj rfl).trans ((up_no hj rfl).trans ((up_no hj rfl).trans ((up_no hj rfl).trans ((up_no hj rfl).trans ((up_no hj rfl).trans ((up_no hj rfl).trans ((up_no hj rfl).trans ((up_no hj rfl).trans ((up_no hj rfl).trans ((up_no hj rfl).trans ((up_no hj rfl).trans ((up_no hj rfl).trans ((up_no hj rfl).trans ((up_no hj rfl).trans ((up_no hj rfl).trans ((up_no hj rfl).trans ((up_no hj rfl).trans ((up_no hj rfl).trans ((up_no hj rfl).trans ((up_no hj rfl).trans (up_no hj rfl)))))))))))))))))))))))))⟩
