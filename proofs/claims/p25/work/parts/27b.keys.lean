abbrev kX_ropes : Nat := 0
abbrev kW_dx : Nat := 1
abbrev kW_dy : Nat := 2
abbrev kW_wave : Nat := 3
abbrev kW_counting : Nat := 4
abbrev kW_number : Nat := 5
abbrev kW_windDx : Nat := 6
abbrev kW_windDy : Nat := 7
abbrev kR_pieceLift : Nat := 8
abbrev kR_pieceLoad : Nat := 9
abbrev kR_hour : Nat := 10
abbrev kR_broken : Nat := 11
abbrev kB_column : Nat := 12
abbrev kB_row : Nat := 13
abbrev kB_lift : Nat := 14
abbrev kB_leak : Nat := 15
abbrev kB_water : Nat := 16
abbrev kB_goods : Nat := 17
abbrev kB_people : Nat := 18
abbrev kB_state : Nat := 19
abbrev kB_x : Nat := 20
abbrev kB_y : Nat := 21
abbrev kB_piece : Nat := 22
abbrev kB_number : Nat := 23
abbrev kK_seat : Nat := 24
abbrev kK_state : Nat := 25
abbrev kK_number : Nat := 26
abbrev kQ_first : Nat := 27
abbrev kQ_second : Nat := 28
abbrev kQ_strength : Nat := 29
abbrev kQ_wear : Nat := 30
abbrev kQ_number : Nat := 31
abbrev kT_pieceLift : Nat := 32
abbrev kT_pieceLoad : Nat := 33
abbrev kT_hour : Nat := 34
abbrev kT_broken : Nat := 35
abbrev kTB_column : Nat := 36
abbrev kTB_row : Nat := 37
abbrev kTB_lift : Nat := 38
abbrev kTB_leak : Nat := 39
abbrev kTB_water : Nat := 40
abbrev kTB_goods : Nat := 41
abbrev kTB_people : Nat := 42
abbrev kTB_state : Nat := 43
abbrev kTB_x : Nat := 44
abbrev kTB_y : Nat := 45
abbrev kTB_piece : Nat := 46
abbrev kTB_number : Nat := 47
abbrev kTK_seat : Nat := 48
abbrev kTK_state : Nat := 49
abbrev kTK_number : Nat := 50
abbrev kTQ_first : Nat := 51
abbrev kTQ_second : Nat := 52
abbrev kTQ_strength : Nat := 53
abbrev kTQ_wear : Nat := 54
abbrev kTQ_number : Nat := 55
abbrev kY_used : Nat := 56
abbrev kY_cameBy : Nat := 57
abbrev kY_reached : Nat := 58
abbrev kY_best : Nat := 59
abbrev kM_thrown : Nat := 60
abbrev kM_waters : Nat := 61
abbrev kM_waterTable : Nat := 62
abbrev kM_windX : Nat := 63
abbrev kM_windY : Nat := 64
abbrev kM_barrels : Nat := 65
abbrev kM_fixed : Nat := 66
abbrev kM_crew : Nat := 67
abbrev kM_table : Nat := 68
abbrev kM_strength : Nat := 69
abbrev kM_wear : Nat := 70
abbrev kM_people : Nat := 71
abbrev kM_numbers : Nat := 72
abbrev kM_pieces : Nat := 73
abbrev kM_used : Nat := 74
abbrev kM_from : Nat := 75
abbrev kM_line : Nat := 76
abbrev kM_is : Nat := 77
def up (S : Nat → Nat → Int32) (k : Nat) (f : Nat → Int32) : Nat → Nat → Int32 := fun j => if j = k then f else S j
def kcL_addBarrel : Nat → Int32 := fun k => if k = 1 then 1 else 2
def kcL_addCastaway : Nat → Int32 := fun k => if k = 3 then 1 else 2
def kcL_addWater : Nat → Int32 := fun k => if k = 1 then 1 else 2
def kcL_advise : Nat → Int32 := fun k => 1
def kcL_bail : Nat → Int32 := fun k => if k = 3 then 1 else 2
def kcL_barrel : Nat → Int32 := fun k => 1
def kcL_castaway : Nat → Int32 := fun k => 1
def kcL_count : Nat → Int32 := fun k => 1
def kcL_cut : Nat → Int32 := fun k => if k = 3 then 1 else 2
def kcL_firm : Nat → Int32 := fun k => 1
def kcL_foresee : Nat → Int32 := fun k => if k = 1 then 1 else 2
def kcL_go : Nat → Int32 := fun k => if k = 3 then 1 else 2
def kcL_hold : Nat → Int32 := fun k => 1
def kcL_lashing : Nat → Int32 := fun k => 1
def kcL_load : Nat → Int32 := fun k => if k = 3 then 1 else if k = 1 then 2 else 3
def kcL_pass : Nat → Int32 := fun k => 1
def kcL_piece : Nat → Int32 := fun k => 1
def kcL_sea : Nat → Int32 := fun k => 1
def kcL_setWind : Nat → Int32 := fun k => 1
def kcL_tie : Nat → Int32 := fun k => if k = 3 then 1 else if k = 1 then 2 else 3
