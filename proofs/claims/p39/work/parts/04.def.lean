/-! the small machine: a program's methods by number, its cells by number (1 ..; null is 0), all values whole numbers with a tag -/
abbrev fw_V : Type := Nat × Int
abbrev fw_M : Type := Int → Int → Int
abbrev fw_O : Type := fw_V × fw_M
/-- a step's outcome: on within the method; the method's end; a call (callee, arguments, the stack below them) -/
abbrev fw_A : Type := (Nat × List fw_V × List fw_V × fw_M) ⊕ (fw_O ⊕ (Nat × List fw_V × List fw_V))
def fw_w (x : Int) : Int := x.bmod 4294967296
def fw_wl (x : Int) : Int := x.bmod 18446744073709551616
def fw_u (σ : fw_M) (k j v : Int) : fw_M := fun a b => if a = k ∧ b = j then v else σ a b
/-- a new cell of n slots, all 0; row -1 holds the next cell's number, how many cells and slots were made -/
def fw_nw (σ : fw_M) (n : Int) : fw_M := fun a b => if a = σ (-1) 0 then 0 else if a = -1 then (if b = 0 then σ (-1) 0 + 1 else if b = 1 then σ (-1) 1 + 1 else if b = 2 then σ (-1) 2 + n else σ a b) else σ a b
/-- new int[6][30], where the next cell is the 37th -/
def fw_mn (σ : fw_M) : fw_M := fun a b => if a = 37 then (if 0 ≤ b ∧ b < 6 then 38 + b else 0) else if 38 ≤ a ∧ a ≤ 43 then 0 else if a = -1 then (if b = 0 then 44 else if b = 1 then σ (-1) 1 + 7 else if b = 2 then σ (-1) 2 + 186 else σ a b) else σ a b
def fw_an (x y : Int) : Int := (Int32.ofInt x &&& Int32.ofInt y).toInt
def fw_sh (x y : Int) : Int := (Int32.ofInt x >>> (Int32.ofInt y &&& 31)).toInt
/-- an exception's cell: counted, not numbered -/
def fw_ex (σ : fw_M) : fw_M := fun a b => if a = -1 then (if b = 1 then σ (-1) 1 + 1 else if b = 2 then σ (-1) 2 + 6 else σ a b) else σ a b
def fw_g : List fw_V → Nat → fw_V
  | [], _ => (8, 0)
  | a :: _, 0 => a
  | _ :: l, n + 1 => fw_g l n
def fw_CN : Nat → String
  | 0 => RX0
  | 1 => RX1
  | 2 => RX2
  | 3 => RX3
  | 4 => RX4
  | 5 => RX5
  | 6 => RX6
  | 7 => RX7
  | 8 => RX8
  | 9 => RX9
  | _ => RL
def fw_CT : Nat → u_T
  | 0 => TX0
  | 1 => TX1
  | 2 => TX2
  | 3 => TX3
  | 4 => TX4
  | 5 => TX5
  | 6 => TX6
  | 7 => TX7
  | 8 => TX8
  | _ => TX9
def fw_ty : Nat → Nat → FieldType
  | 0 => tyX0
  | 1 => tyX1
  | 2 => tyX2
  | 3 => tyX3
  | 4 => tyX4
  | 5 => tyX5
  | 6 => tyX6
  | 7 => tyX7
  | 8 => tyX8
  | _ => tyX9
def fw_nf : Nat → Nat
  | 0 => 4
  | 1 => 6
  | 2 => 3
  | 3 => 9
  | 4 => 10
  | 5 => 2
  | 6 => 7
  | 7 => 4
  | 8 => 9
  | 9 => 23
  | _ => 0
/-- kinds of fields: 0 int, 1 long, 2 reference, 10 boolean -/
def fw_fkT : List (List Nat) := [[2, 2, 0, 0], [0, 2, 0, 10, 0, 0], [2, 2, 0], [2, 2, 2, 2, 2, 2, 2, 2, 0], [2, 2, 2, 2, 2, 0, 0, 0, 1, 1], [2, 0], [2, 2, 0, 0, 0, 10, 10], [2, 2, 2, 2], [2, 2, 2, 2, 2, 2, 2, 2, 1], [0, 0, 2, 2, 2, 0, 2, 2, 2, 2, 0, 0, 2, 2, 2, 2, 2, 0, 0, 0, 0, 0, 1]]
def fw_fk (c j : Nat) : Nat := (fw_fkT.getD c []).getD j 0
def fw_tg (f : Nat) : Nat := if f = 10 then 0 else f
/-- what each cell is: 3 + the class's number, or 100 int[], 101 char[], 102 boolean[], 103 long[], 104 double[], 105 CrossdockSorter$Chute[], 106 int[][] -/
def fw_kdT : List Int := [11, 7, 100, 100, 101, 100, 100, 3, 100, 100, 9, 105, 100, 10, 100, 100, 6, 3, 100, 100, 100, 100, 100, 100, 8, 100, 5, 8, 100, 100, 100, 12, 100, 100, 102, 100, 106, 100, 100, 100, 100, 100, 100, 100, 100, 100, 100, 100, 101, 100]
def fw_lnT : List Int := [0, 0, 300, 300, 300, 300, 300, 0, 20, 20, 0, 6, 8, 0, 8, 6, 0, 0, 20, 20, 20, 20, 20, 6, 0, 300, 0, 0, 300, 300, 300, 0, 20, 20, 20, 6, 6, 30, 30, 30, 30, 30, 30, 6, 8, 60, 60, 60, 60, 60]
def fw_kd (k : Int) : Int := if k ≤ 0 then 0 else if k ≤ 50 then fw_kdT.getD (k - 1).toNat 0 else if k % 3 = 0 then 4 else if k % 3 = 1 then 8 else 100
def fw_ln (k : Int) : Int := if k ≤ 0 then 0 else if k ≤ 50 then fw_lnT.getD (k - 1).toNat 0 else 30
def fw_xn : Nat → String
  | 0 => "java/lang/IllegalArgumentException"
  | 1 => "java/lang/IllegalStateException"
  | 2 => "java/lang/UnsupportedOperationException"
  | 3 => "java/lang/IndexOutOfBoundsException"
  | 4 => "java/util/NoSuchElementException"
  | _ => "java/lang/ArithmeticException"
/-- a method: its name, code, locals, answer, class, height, kind (0 of an object, 1 static, 2 constructor, 3 static with handlers, 4 the law), its parameters' tags, handlers (the last number: the exception) -/
abbrev fw_R : Type := MethodName × ByteArray × Nat × Option FieldType × Nat × Nat × Nat × List Nat × List (Nat × Nat × Nat × Nat × Nat)
def fw_tab0 : List fw_R := [(yL_law, cL_law, 5, (some .boolean), 10, 8, 4, [6], []),
  (yX0_init, cX0_init, 1, none, 0, 1, 2, [], []),
  (yX0_makeEmpty, cX0_makeEmpty, 3, none, 0, 0, 0, [0], []),
  (yX0_copyFrom, cX0_copyFrom, 3, none, 0, 0, 0, [2], []),
  (yX0_has, cX0_has, 2, (some (.boolean)), 0, 0, 0, [0], []),
  (yX0_slotOf, cX0_slotOf, 3, (some (.int)), 0, 1, 0, [0], []),
  (yX0_move, cX0_move, 2, none, 0, 2, 0, [], []),
  (yX0_parcelAt, cX0_parcelAt, 3, (some (.int)), 0, 2, 0, [0], []),
  (yX0_roundsAt, cX0_roundsAt, 3, (some (.int)), 0, 2, 0, [0], []),
  (yX0_positionWith, cX0_positionWith, 3, (some (.int)), 0, 3, 0, [0], []),
  (yX0_put, cX0_put, 4, none, 0, 2, 0, [0, 0], []),
  (yX0_takeFrom, cX0_takeFrom, 2, none, 0, 3, 0, [0], []),
  (yX1_init, cX1_init, 3, none, 1, 1, 2, [0, 0], []),
  (yX1_drop, cX1_drop, 2, none, 1, 1, 0, [0], []),
  (yX1_clear, cX1_clear, 1, none, 1, 0, 0, [], []),
  (yX1_keptSeal, cX1_keptSeal, 1, (some (.int)), 1, 0, 0, [], []),
  (yX1_sealOfContent, cX1_sealOfContent, 1, (some (.int)), 1, 2, 0, [], []),
  (yX2_init, cX2_init, 1, none, 2, 1, 2, [], []),
  (yX2_has, cX2_has, 2, (some (.boolean)), 2, 0, 0, [0], []),
  (yX2_take, cX2_take, 4, (some (.int)), 2, 1, 0, [2], []),
  (yX2_startOf, cX2_startOf, 2, (some (.int)), 2, 1, 0, [0], []),
  (yX2_sizeOf, cX2_sizeOf, 2, (some (.int)), 2, 2, 0, [0], []),
  (yX2_parcelAt, cX2_parcelAt, 3, (some (.int)), 2, 2, 0, [0, 0], []),
  (yX2_sealOf, cX2_sealOf, 2, (some (.int)), 2, 3, 0, [0], []),
  (yX3_init, cX3_init, 4, none, 3, 2, 2, [2, 2, 2], []),
  (yX3_byOrigin, cX3_byOrigin, 4, (some (.int)), 3, 5, 0, [0], []),
  (yX3_byTrays, cX3_byTrays, 5, (some (.int)), 3, 5, 0, [0], []),
  (yX3_begin, cX3_begin, 3, none, 3, 1, 0, [], []),
  (yX3_moveOrigin, cX3_moveOrigin, 4, (some (.int)), 3, 4, 0, [], []),
  (yX3_moveTray, cX3_moveTray, 4, (some (.int)), 3, 4, 0, [0], []),
  (yX3_loadTray, cX3_loadTray, 2, none, 3, 1, 0, [0], []),
  (yX3_chuteGets, cX3_chuteGets, 3, (some (.boolean)), 3, 3, 0, [0, 0], []),
  (yX4_init, cX4_init, 1, none, 4, 0, 2, [], []),
  (yX4_has, cX4_has, 2, (some (.boolean)), 4, 0, 0, [0], []),
  (yX4_add, cX4_add, 4, (some (.int)), 4, 0, 0, [0, 0], []),
  (yX4_loadFirst, cX4_loadFirst, 2, (some (.int)), 4, 1, 0, [], []),
  (yX4_leave, cX4_leave, 4, none, 4, 1, 0, [0, 0, 0], []),
  (yX4_enterTruck, cX4_enterTruck, 3, none, 4, 1, 0, [0, 0], []),
  (yX4_routeAt, cX4_routeAt, 2, (some (.int)), 4, 1, 0, [0], []),
  (yX4_stateAt, cX4_stateAt, 2, (some (.char)), 4, 1, 0, [0], []),
  (yX4_lastRoundsAt, cX4_lastRoundsAt, 2, (some (.int)), 4, 1, 0, [0], []),
  (yX4_truckAt, cX4_truckAt, 2, (some (.int)), 4, 1, 0, [0], []),
  (yX4_loadOf, cX4_loadOf, 5, (some (.int)), 4, 0, 0, [0], []),
  (yX5_init, cX5_init, 2, none, 5, 0, 2, [0], []),
  (yX5_at, cX5_at, 2, (some (.int)), 5, 0, 0, [0], []),
  (yX5_add, cX5_add, 2, none, 5, 0, 0, [0], []),
  (yX5_sealOf, cX5_sealOf, 6, (some (.int)), 5, 1, 0, [0, 0], []),
  (yX6_init, cX6_init, 2, none, 6, 0, 2, [], []),
  (yX6_build, cX6_build, 4, (some (.int)), 6, 2, 0, [0, 0], []),
  (yX6_chute, cX6_chute, 2, (some (.object "CrossdockSorter$Chute")), 6, 0, 0, [0], [])]
def fw_tab1 : List fw_R := [(yX6_numberAt, cX6_numberAt, 4, (some (.int)), 6, 1, 0, [0], []),
  (yX6_chuteAt, cX6_chuteAt, 2, (some (.object "CrossdockSorter$Chute")), 6, 2, 0, [0], []),
  (yX6_kindAt, cX6_kindAt, 2, (some (.char)), 6, 3, 0, [0], []),
  (yX6_isJammed, cX6_isJammed, 3, (some (.boolean)), 6, 3, 0, [0], []),
  (yX6_setJammed, cX6_setJammed, 4, none, 6, 3, 0, [0, 0], []),
  (yX6_jams, cX6_jams, 4, (some (.int)), 6, 1, 0, [], []),
  (yX0_has, cX0_has, 2, (some (.boolean)), 0, 0, 0, [0], []),
  (yX6_chuteOfRoute, cX6_chuteOfRoute, 2, (some (.int)), 6, 1, 0, [0], []),
  (yX6_send, cX6_send, 3, none, 6, 1, 0, [0, 0], []),
  (yX6_loaderPuts, cX6_loaderPuts, 4, (some (.boolean)), 6, 0, 0, [0, 0, 0], []),
  (yX6_chuteTakes, cX6_chuteTakes, 5, (some (.boolean)), 6, 2, 0, [0, 0, 0], []),
  (yX6_overflowTakes, cX6_overflowTakes, 3, (some (.boolean)), 6, 0, 0, [0, 0], []),
  (yX6_sealsAgree, cX6_sealsAgree, 3, (some (.boolean)), 6, 3, 0, [], []),
  (yX7_init, cX7_init, 3, none, 7, 0, 2, [2, 2], []),
  (yX0_has, cX0_has, 2, (some (.boolean)), 0, 0, 0, [0], []),
  (yX0_has, cX0_has, 2, (some (.boolean)), 0, 0, 0, [0], []),
  (yX0_has, cX0_has, 2, (some (.boolean)), 0, 0, 0, [0], []),
  (yX0_has, cX0_has, 2, (some (.boolean)), 0, 0, 0, [0], []),
  (yX8_init, cX8_init, 1, none, 8, 3, 2, [], []),
  (yX8_setLoop, cX8_setLoop, 3, (some (.int)), 8, 4, 0, [0], []),
  (yX8_addChute, cX8_addChute, 3, (some (.int)), 8, 4, 0, [0, 0], []),
  (yX8_setCapacity, cX8_setCapacity, 5, (some (.int)), 8, 5, 0, [0, 0], []),
  (yX8_setLimit, cX8_setLimit, 3, (some (.int)), 8, 4, 0, [0], []),
  (yX8_jam, cX8_jam, 2, (some (.int)), 8, 5, 0, [0], []),
  (yX8_free, cX8_free, 2, (some (.int)), 8, 5, 0, [0], []),
  (yX8_stationAt, cX8_stationAt, 2, (some (.char)), 8, 5, 0, [0], []),
  (yX8_arrive, cX8_arrive, 3, (some (.int)), 8, 4, 0, [0, 0], []),
  (yX8_pass, cX8_pass, 4, (some (.int)), 8, 6, 0, [0], []),
  (yX8_tick, cX8_tick, 1, (some (.long)), 8, 0, 0, [], []),
  (yX8_stateOf, cX8_stateOf, 2, (some (.char)), 8, 5, 0, [0], []),
  (yX8_positionOf, cX8_positionOf, 3, (some (.int)), 8, 5, 0, [0], []),
  (yX8_roundsOf, cX8_roundsOf, 3, (some (.int)), 8, 5, 0, [0], []),
  (yX8_trayAt, cX8_trayAt, 3, (some (.int)), 8, 5, 0, [0], []),
  (yX8_waiting, cX8_waiting, 1, (some (.int)), 8, 0, 0, [], []),
  (yX8_onLoop, cX8_onLoop, 1, (some (.int)), 8, 0, 0, [], []),
  (yX8_overflowed, cX8_overflowed, 1, (some (.int)), 8, 0, 0, [], []),
  (yX8_leavingAhead, cX8_leavingAhead, 2, (some (.int)), 8, 6, 0, [0], []),
  (yX8_leavingByTrays, cX8_leavingByTrays, 2, (some (.int)), 8, 6, 0, [0], []),
  (yX0_has, cX0_has, 2, (some (.boolean)), 0, 0, 0, [0], []),
  (yX8_assign, cX8_assign, 4, (some (.int)), 8, 5, 0, [0, 0], []),
  (yX8_unassign, cX8_unassign, 3, (some (.int)), 8, 5, 0, [0], []),
  (yX8_chuteFor, cX8_chuteFor, 3, (some (.int)), 8, 5, 0, [0], []),
  (yX8_load, cX8_load, 2, (some (.int)), 8, 5, 0, [0], []),
  (yX8_inChute, cX8_inChute, 2, (some (.int)), 8, 5, 0, [0], []),
  (yX8_seal, cX8_seal, 2, (some (.int)), 8, 5, 0, [0], []),
  (yX8_sealByParcels, cX8_sealByParcels, 2, (some (.int)), 8, 5, 0, [0], []),
  (yX8_dispatch, cX8_dispatch, 6, (some (.int)), 8, 5, 0, [0], []),
  (yX8_trucks, cX8_trucks, 1, (some (.int)), 8, 0, 0, [], []),
  (yX8_sealOfTruck, cX8_sealOfTruck, 2, (some (.int)), 8, 5, 0, [0], []),
  (yX8_parcelIn, cX8_parcelIn, 3, (some (.int)), 8, 5, 0, [0, 0], [])]
def fw_tab2 : List fw_R := [(yX8_truckOf, cX8_truckOf, 2, (some (.int)), 8, 5, 0, [0], []),
  (yX8_shipped, cX8_shipped, 1, (some (.long)), 8, 0, 0, [], []),
  (yX8_meanRounds, cX8_meanRounds, 1, (some (.double)), 8, 5, 0, [], []),
  (yX8_overflowShare, cX8_overflowShare, 1, (some (.float)), 8, 5, 0, [], []),
  (yX8_isOnce, cX8_isOnce, 1, (some (.boolean)), 8, 6, 0, [], []),
  (yX8_isCapacity, cX8_isCapacity, 1, (some (.boolean)), 8, 0, 1, [0], []),
  (yX8_isRoute, cX8_isRoute, 1, (some (.boolean)), 8, 0, 1, [0], []),
  (yX8_requireRoute, cX8_requireRoute, 1, none, 8, 4, 1, [0], []),
  (yX8_requireTicks, cX8_requireTicks, 1, none, 8, 4, 1, [0], []),
  (yX8_requirePosition, cX8_requirePosition, 2, none, 8, 4, 0, [0], []),
  (yX8_requireStation, cX8_requireStation, 2, none, 8, 4, 0, [0], []),
  (yX8_requireParcel, cX8_requireParcel, 2, none, 8, 4, 0, [0], []),
  (yX8_requireChute, cX8_requireChute, 3, (some (.object "CrossdockSorter$Chute")), 8, 4, 0, [0], []),
  (yX8_requireTruck, cX8_requireTruck, 2, none, 8, 4, 0, [0], []),
  (yX8_requireSomeLeft, cX8_requireSomeLeft, 1, none, 8, 4, 0, [], []),
  (yX8_passOneTick, cX8_passOneTick, 3, (some (.int)), 8, 5, 0, [], []),
  (yX8_dropInto, cX8_dropInto, 4, (some (.int)), 8, 4, 0, [0], []),
  (yX8_dropIntoOverflow, cX8_dropIntoOverflow, 3, (some (.int)), 8, 4, 0, [], []),
  (yX8_eachParcelIsOnce, cX8_eachParcelIsOnce, 3, (some (.boolean)), 8, 3, 0, [], []),
  (yX8_seeAll, cX8_seeAll, 3, none, 8, 1, 0, [2], []),
  (yX8_see, cX8_see, 2, none, 8, 0, 0, [0], []),
  (yX9_init, cX9_init, 3, none, 9, 0, 2, [0], []),
  (yX9_trayAt, cX9_trayAt, 2, (some (.int)), 9, 0, 0, [0], []),
  (yX9_leave, cX9_leave, 3, none, 9, 0, 0, [0, 0], []),
  (yX9_serve, cX9_serve, 5, none, 9, 1, 0, [0], []),
  (yX9_tick, cX9_tick, 4, (some (.int)), 9, 2, 0, [], []),
  (yX9_seal, cX9_seal, 7, (some (.int)), 9, 0, 0, [0], []),
  (yX9_load, cX9_load, 4, (some (.int)), 9, 0, 0, [0], []),
  (yX9_jams, cX9_jams, 6, (some (.int)), 9, 0, 0, [], []),
  (yL_cell, cL_cell, 2, (some (.int)), 10, 0, 1, [6, 0], []),
  (yL_low, cL_low, 2, (some (.int)), 10, 0, 1, [0, 0], []),
  (yL_chuteFor, cL_chuteFor, 3, (some (.int)), 10, 6, 3, [2, 0], [(0, 5, 6, 15, 4)]),
  (yL_trayAt, cL_trayAt, 3, (some (.int)), 10, 6, 3, [2, 0], [(0, 5, 6, 15, 4)]),
  (yL_agrees, cL_agrees, 7, (some (.boolean)), 10, 7, 1, [2, 2], []),
  (yL_jams, cL_jams, 4, (some (.boolean)), 10, 6, 1, [2, 2, 0], []),
  (yL_empties, cL_empties, 7, (some (.boolean)), 10, 6, 1, [2, 2, 0], []),
  (yL_acts, cL_acts, 10, (some (.boolean)), 10, 7, 1, [2, 2, 0], [])]
def fw_row (k : Nat) : fw_R := (match k / 50 with
  | 0 => fw_tab0
  | 1 => fw_tab1
  | _ => fw_tab2).getD (k % 50) (yL_law, cL_law, 5, none, 10, 0, 4, [], [])
def fw_y (k : Nat) : MethodName := (fw_row k).1
def fw_B (k : Nat) : ByteArray := (fw_row k).2.1
def fw_mL (k : Nat) : Nat := (fw_row k).2.2.1
def fw_rt (k : Nat) : Option FieldType := (fw_row k).2.2.2.1
def fw_oc (k : Nat) : Nat := (fw_row k).2.2.2.2.1
def fw_rk (k : Nat) : Nat := (fw_row k).2.2.2.2.2.1
def fw_ki (k : Nat) : Nat := (fw_row k).2.2.2.2.2.2.1
def fw_pt (k : Nat) : List Nat := (fw_row k).2.2.2.2.2.2.2.1
def fw_hs (k : Nat) : List (Nat × Nat × Nat × Nat × Nat) := (fw_row k).2.2.2.2.2.2.2.2
def fw_t : Nat → List Cond
  | 1 => tables_1_1
  | 2 => tables_1_2
  | 3 => tables_1_3
  | 4 => tables_1_4
  | _ => tables_1_5
def fw_KS : Nat := 126
/-- (class, entry, class of the field, its place, and where the tables say so) -/
def fw_frT : List (Nat × Nat × Nat × Nat × Nat × Nat) := [(0, 9, 0, 0, 1, 91), (0, 15, 0, 1, 1, 92), (0, 31, 0, 2, 1, 93), (0, 35, 0, 3, 1, 95), (1, 9, 1, 0, 2, 151), (1, 15, 1, 2, 2, 158), (1, 23, 1, 1, 2, 155), (1, 30, 1, 4, 2, 162), (1, 33, 1, 5, 2, 163), (1, 36, 5, 1, 1, 203), (2, 14, 2, 0, 1, 220), (2, 20, 2, 1, 1, 222), (2, 24, 2, 2, 1, 223), (2, 28, 5, 1, 1, 204), (3, 12, 3, 3, 1, 169), (3, 18, 3, 4, 1, 170), (3, 22, 3, 5, 1, 171), (3, 25, 3, 6, 1, 172), (3, 28, 3, 7, 1, 173), (3, 31, 3, 0, 1, 166), (3, 35, 3, 1, 1, 167), (3, 39, 3, 2, 1, 168), (3, 60, 6, 3, 1, 119), (3, 69, 4, 6, 1, 44), (3, 74, 3, 8, 1, 174), (3, 81, 1, 1, 2, 157), (3, 87, 5, 1, 1, 206), (3, 95, 4, 5, 1, 42), (3, 106, 1, 0, 2, 153), (4, 9, 4, 0, 1, 35), (4, 15, 4, 1, 1, 36), (4, 18, 4, 2, 1, 37), (4, 22, 4, 3, 1, 38), (4, 25, 4, 4, 1, 39), (4, 28, 4, 5, 1, 40), (4, 32, 4, 6, 1, 43), (4, 39, 4, 7, 1, 46), (4, 42, 4, 8, 1, 48), (4, 46, 4, 9, 1, 50), (5, 15, 5, 0, 1, 201), (5, 21, 5, 1, 1, 202), (6, 11, 6, 0, 1, 113), (6, 17, 6, 1, 1, 114), (6, 21, 6, 3, 1, 117), (6, 25, 6, 4, 1, 120), (6, 28, 6, 2, 1, 115), (6, 38, 1, 0, 2, 152), (6, 48, 6, 5, 1, 122), (6, 52, 6, 6, 1, 123), (6, 55, 1, 3, 2, 161), (6, 62, 1, 2, 2, 160), (7, 9, 7, 2, 1, 147), (7, 15, 7, 3, 1, 148), (7, 18, 7, 0, 1, 145), (7, 22, 7, 1, 1, 146), (8, 10, 8, 0, 1, 232), (8, 19, 8, 1, 1, 233), (8, 26, 8, 2, 1, 234), (8, 35, 8, 3, 1, 235), (8, 44, 8, 4, 1, 236), (8, 53, 8, 5, 1, 237), (8, 60, 8, 6, 1, 238), (8, 64, 8, 7, 1, 239), (8, 71, 6, 2, 1, 116), (8, 75, 4, 5, 1, 41), (8, 81, 0, 2, 1, 94), (8, 87, 6, 3, 1, 118), (8, 108, 1, 1, 2, 156), (8, 113, 5, 1, 1, 205), (8, 116, 1, 2, 2, 159), (8, 119, 6, 4, 1, 121), (8, 155, 8, 8, 2, 0), (8, 181, 4, 6, 1, 45), (8, 184, 4, 7, 1, 47), (8, 232, 2, 2, 1, 224), (8, 247, 4, 9, 1, 51), (8, 253, 4, 8, 1, 49), (8, 295, 1, 0, 2, 154), (8, 327, 2, 0, 1, 221), (9, 7, 9, 2, 3, 111), (9, 13, 9, 3, 3, 113), (9, 16, 9, 4, 3, 115), (9, 20, 9, 6, 3, 118), (9, 25, 9, 7, 3, 120), (9, 28, 9, 8, 3, 122), (9, 31, 9, 9, 3, 124), (9, 34, 9, 10, 3, 126), (9, 38, 9, 12, 3, 130), (9, 41, 9, 13, 3, 132), (9, 44, 9, 14, 3, 134), (9, 47, 9, 15, 3, 136), (9, 51, 9, 16, 3, 138), (9, 54, 9, 0, 3, 107), (9, 57, 9, 1, 3, 109), (9, 60, 9, 18, 3, 141), (9, 63, 9, 20, 3, 145), (9, 70, 9, 17, 3, 140), (9, 73, 9, 11, 3, 128), (9, 80, 9, 19, 3, 143)]
/-- the same of the private fields of a nest mate -/
def fw_fnT : List (Nat × Nat × Nat × Nat × Nat × Nat) := [(10, 20, 9, 11, 3, 129), (10, 26, 9, 15, 3, 137), (10, 37, 9, 14, 3, 135), (10, 44, 9, 16, 3, 139), (10, 57, 9, 19, 3, 144), (10, 64, 9, 1, 3, 110), (10, 70, 9, 21, 3, 147), (10, 75, 9, 22, 3, 148), (10, 78, 9, 0, 3, 108), (10, 81, 9, 2, 3, 112), (10, 93, 9, 5, 3, 117), (10, 99, 9, 8, 3, 123), (10, 115, 9, 9, 3, 125), (10, 117, 9, 18, 3, 142), (10, 124, 9, 20, 3, 146), (10, 131, 9, 3, 3, 114), (10, 137, 9, 4, 3, 116), (10, 156, 9, 7, 3, 121), (10, 164, 9, 13, 3, 133), (10, 175, 9, 12, 3, 131), (10, 201, 9, 10, 3, 127), (10, 207, 9, 6, 3, 119)]
/-- ints among the constants: (class, entry, value, where the tables say so) -/
def fw_kiT : List (Nat × Nat × Int × Nat × Nat) := [(10, 7, 40503, 3, 200), (10, 8, 2147483647, 3, 204)]
def fw_klT : List (Nat × Nat × Int × Nat × Nat) := [(9, 93, 10000, 4, 75), (9, 95, 9973, 4, 76)]
/-- (class, entry, callee (1000 Math.max, 1001 Math.min, 1002 Object's constructor), 1 where it is a nest mate's private one, and where the tables say so) -/
def fw_mrT : List (Nat × Nat × Nat × Nat × Nat × Nat) := [(0, 3, 1002, 0, 1, 80), (0, 18, 2, 0, 1, 81), (0, 22, 1001, 0, 1, 85), (0, 28, 1000, 0, 1, 88), (0, 38, 4, 0, 2, 236), (0, 42, 5, 0, 2, 232), (0, 46, 7, 0, 4, 3), (0, 49, 10, 0, 3, 77), (1, 3, 1002, 0, 2, 148), (1, 20, 43, 0, 2, 150), (1, 27, 45, 0, 4, 195), (1, 39, 46, 0, 3, 24), (2, 3, 1002, 0, 1, 217), (2, 11, 43, 0, 1, 219), (2, 29, 44, 0, 5, 28), (2, 33, 45, 0, 5, 29), (2, 36, 18, 0, 5, 58), (2, 40, 20, 0, 5, 54), (2, 43, 21, 0, 5, 59), (2, 46, 46, 0, 5, 63), (3, 3, 1002, 0, 1, 163), (3, 11, 1, 0, 1, 165), (3, 42, 27, 0, 3, 33), (3, 45, 3, 0, 3, 38), (3, 49, 28, 0, 3, 42), (3, 53, 7, 0, 3, 50), (3, 57, 8, 0, 3, 78), (3, 66, 29, 0, 3, 90), (3, 77, 49, 0, 3, 37), (3, 92, 6, 0, 3, 46), (3, 98, 59, 0, 3, 51), (3, 102, 10, 0, 3, 55), (3, 109, 31, 0, 3, 59), (3, 113, 11, 0, 3, 73), (3, 117, 61, 0, 3, 82), (3, 120, 30, 0, 3, 94), (3, 123, 50, 0, 3, 98), (3, 126, 38, 0, 3, 63), (3, 129, 60, 0, 3, 68), (4, 3, 1002, 0, 1, 34), (4, 35, 33, 0, 3, 67), (5, 3, 1002, 0, 1, 199), (5, 9, 1000, 0, 1, 200), (5, 25, 44, 0, 3, 28), (6, 3, 1002, 0, 1, 110), (6, 31, 12, 0, 2, 145), (6, 34, 49, 0, 2, 121), (6, 41, 50, 0, 2, 117), (6, 45, 51, 0, 4, 220), (6, 58, 106, 1, 2, 211), (6, 65, 57, 0, 3, 72), (6, 68, 15, 0, 3, 16), (6, 72, 16, 0, 3, 20), (7, 3, 1002, 0, 1, 144), (8, 1, 1002, 0, 1, 26), (8, 9, 32, 1, 1, 31), (8, 18, 1, 0, 1, 77), (8, 25, 47, 0, 1, 107), (8, 32, 63, 0, 1, 141), (8, 41, 24, 0, 1, 160), (8, 50, 43, 0, 1, 196), (8, 59, 17, 1, 1, 214), (8, 84, 2, 0, 2, 105), (8, 90, 105, 0, 2, 110), (8, 94, 51, 0, 2, 113), (8, 101, 48, 0, 2, 140), (8, 105, 112, 0, 2, 187), (8, 122, 110, 0, 4, 225), (8, 125, 53, 0, 4, 229), (8, 128, 54, 0, 4, 233), (8, 132, 55, 0, 4, 237), (8, 136, 109, 0, 4, 53), (8, 139, 52, 0, 4, 216), (8, 143, 106, 0, 2, 184), (8, 146, 34, 0, 4, 136), (8, 149, 108, 0, 4, 144), (8, 152, 115, 0, 4, 169), (8, 159, 111, 0, 3, 212), (8, 162, 39, 0, 3, 231), (8, 165, 9, 0, 3, 239), (8, 169, 8, 0, 4, 4), (8, 172, 40, 0, 4, 5), (8, 175, 7, 0, 2, 228), (8, 187, 25, 0, 3, 29), (8, 190, 26, 0, 3, 86), (8, 200, 107, 0, 2, 181), (8, 203, 57, 0, 2, 207), (8, 206, 58, 0, 2, 212), (8, 210, 42, 0, 4, 86), (8, 213, 15, 0, 4, 70), (8, 216, 16, 0, 4, 81), (8, 219, 19, 0, 5, 24), (8, 223, 44, 0, 3, 4), (8, 226, 37, 0, 5, 30), (8, 229, 14, 0, 5, 34), (8, 233, 113, 0, 5, 42), (8, 236, 23, 0, 5, 50), (8, 239, 21, 0, 5, 68), (8, 242, 22, 0, 5, 69), (8, 244, 41, 0, 4, 13), (8, 250, 114, 0, 4, 105), (8, 256, 118, 0, 2, 220), (8, 259, 62, 0, 3, 12), (8, 262, 4, 0, 4, 57), (8, 265, 33, 0, 3, 8), (8, 266, 49, 0, 2, 191), (8, 272, 18, 0, 5, 46), (8, 276, 6, 0, 4, 173), (8, 279, 59, 0, 4, 174), (8, 283, 35, 0, 4, 175), (8, 286, 10, 0, 4, 179), (8, 289, 116, 0, 4, 180), (8, 292, 117, 0, 4, 199), (8, 298, 38, 0, 4, 184), (8, 301, 60, 0, 4, 185), (8, 304, 36, 0, 4, 186), (8, 308, 11, 0, 4, 190), (8, 311, 13, 0, 4, 191), (8, 314, 61, 0, 4, 203), (8, 318, 45, 0, 4, 204), (8, 320, 120, 0, 2, 224), (8, 323, 119, 0, 3, 0), (9, 1, 1002, 0, 3, 104), (9, 66, 122, 0, 4, 155), (9, 76, 123, 0, 4, 161), (9, 83, 1000, 0, 4, 156), (9, 89, 124, 0, 4, 157), (10, 9, 91, 0, 4, 97), (10, 17, 82, 0, 4, 49), (10, 30, 79, 0, 3, 208), (10, 34, 81, 0, 3, 235), (10, 41, 100, 0, 4, 9), (10, 47, 83, 0, 4, 17), (10, 51, 84, 0, 4, 21), (10, 54, 85, 0, 4, 25), (10, 60, 78, 0, 4, 29), (10, 67, 97, 0, 4, 33), (10, 72, 101, 0, 4, 37), (10, 84, 122, 0, 4, 41), (10, 85, 132, 0, 4, 45), (10, 90, 80, 0, 4, 58), (10, 96, 93, 0, 4, 62), (10, 102, 94, 0, 4, 66), (10, 105, 126, 0, 4, 71), (10, 106, 95, 0, 4, 77), (10, 109, 92, 0, 4, 82), (10, 112, 127, 0, 4, 90), (10, 113, 131, 0, 4, 94), (10, 120, 102, 0, 4, 101), (10, 127, 103, 0, 4, 124), (10, 134, 75, 0, 4, 212), (10, 141, 73, 0, 4, 221), (10, 144, 74, 0, 5, 1), (10, 147, 128, 0, 5, 5), (10, 150, 96, 0, 5, 20), (10, 153, 98, 0, 5, 38), (10, 160, 99, 0, 5, 64), (10, 167, 130, 0, 3, 201), (10, 170, 1000, 0, 4, 131), (10, 178, 76, 0, 4, 132), (10, 181, 86, 0, 4, 140), (10, 184, 87, 0, 4, 147), (10, 187, 125, 0, 4, 151), (10, 189, 77, 0, 4, 165), (10, 192, 90, 0, 4, 205), (10, 195, 89, 0, 2, 177), (10, 198, 134, 0, 4, 209), (10, 204, 72, 0, 5, 9), (10, 210, 71, 0, 5, 13), (10, 213, 135, 0, 5, 17), (10, 216, 68, 0, 1, 23), (10, 217, 129, 0, 3, 197), (10, 221, 121, 0, 3, 101), (10, 224, 69, 0, 2, 20), (10, 227, 70, 0, 2, 106), (10, 230, 136, 0, 4, 128), (10, 233, 133, 0, 3, 205), (10, 237, 104, 0, 2, 216)]
def fw_crT : List (Nat × Nat × Nat × Nat × Nat) := [(1, 18, 5, 2, 149), (2, 9, 5, 1, 218), (3, 9, 0, 1, 164), (6, 9, 1, 1, 111), (8, 7, 4, 1, 29), (8, 16, 0, 1, 75), (8, 23, 6, 1, 105), (8, 30, 7, 1, 139), (8, 39, 3, 1, 158), (8, 48, 5, 1, 194), (8, 57, 2, 1, 212), (10, 10, 8, 1, 21), (10, 21, 9, 3, 99)]
/-- (entry of an exception's class in CrossdockSorter, entry of its constructor, its number, and where the tables say so) -/
def fw_xrT : List (Nat × Nat × Nat × Nat × Nat) := [(68, 70, 0, 2, 24), (78, 80, 1, 2, 90), (98, 100, 2, 2, 125), (178, 180, 4, 3, 216), (269, 271, 3, 2, 192), (273, 275, 5, 4, 109)]
def fw_fr (o i : Nat) : Option (Nat × Nat) := ((fw_frT ++ fw_fnT).find? (fun q => q.1 == o && q.2.1 == i)).map (fun q => (q.2.2.1, q.2.2.2.1))
def fw_ck (o i : Nat) : Option Int := (fw_kiT.find? (fun q => q.1 == o && q.2.1 == i)).map (fun q => q.2.2.1)
def fw_cl2 (o i : Nat) : Option Int := (fw_klT.find? (fun q => q.1 == o && q.2.1 == i)).map (fun q => q.2.2.1)
def fw_mr (o i : Nat) : Option (Nat × Nat) := (fw_mrT.find? (fun q => q.1 == o && q.2.1 == i)).map (fun q => (q.2.2.1, q.2.2.2.1))
def fw_cal (o i : Nat) : Nat := ((fw_mr o i).map Prod.fst).getD 0
def fw_cr (o i : Nat) : Option Nat := (fw_crT.find? (fun q => q.1 == o && q.2.1 == i)).map (fun q => q.2.2.1)
def fw_xr (i : Nat) : Option (Nat × Nat) := (fw_xrT.find? (fun q => q.1 == i)).map (fun q => (q.2.1, q.2.2.1))
def fw_dec (k pc : Nat) : Option (Instr × Nat) := match decode (fw_B k) pc with
  | .ok r => some r
  | .error _ => none
theorem fw_de {k pc : Nat} {bb : ByteArray} {r : Instr × Nat} (hB : fw_B k = bb) (h : decode bb pc = .ok r) : fw_dec k pc = some r := by
  unfold fw_dec; rw [hB, h]
theorem fw_de' {k pc : Nat} {r : Instr × Nat} (h : fw_dec k pc = some r) : decode (fw_B k) pc = .ok r := by
  unfold fw_dec at h; split at h
  · rename_i x hx; rw [hx]; exact congrArg _ (Option.some.inj h)
  · cases h
/-- the handler of method k for the exception x thrown at pc -/
def fw_hd (k pc x : Nat) : Option Nat := ((fw_hs k).find? (fun h => h.2.2.2.2 == x && (decide (h.1 ≤ pc) && decide (pc < h.2.1)))).map (fun h => h.2.2.1)
def fw_nx (pc : Nat) (ll st : List fw_V) (σ : fw_M) : Option fw_A := some (.inl (pc, ll, st, σ))
def fw_fi (v : fw_V) (σ : fw_M) : Option fw_A := some (.inr (.inl (v, σ)))
def fw_tgt (pc : Nat) (off : Int) : Nat := ((pc : Int) + off).toNat
/-- a store to a local (a long there, or just below, is left to Loop's seal) -/
def fw_so (k : Nat) (ll : List fw_V) (i : Nat) : Bool := decide (i < fw_mL k) && (decide (k ≠ fw_KS) || decide (i = 0) || decide ((fw_g ll (i - 1)).1 ≠ 1))
def fw_br (pc : Nat) (off : Int) (c : Prop) [Decidable c] (ll st : List fw_V) (σ : fw_M) : Option fw_A := if c then fw_nx (fw_tgt pc off) ll st σ else fw_nx (pc + 3) ll st σ
def fw_ifc (c : ClassFile.Cond) (x y : Int) : Bool := match c with
  | .eq => decide (x = y)
  | .ne => decide (x ≠ y)
  | .lt => decide (x < y)
  | .ge => decide (y ≤ x)
  | .gt => decide (y < x)
  | .le => decide (x ≤ y)
def fw_ak (t : ArrayType) : Int := match t with
  | .int => 100
  | .char => 101
  | .boolean => 102
  | _ => 99
def fw_ca (k cal : Nat) (rcv : Bool) (st : List fw_V) : Option fw_A :=
  let n := (fw_pt cal).length
  let as := (st.take n).reverse
  let r0 := st.drop n
  if as.map Prod.fst = fw_pt cal ∧ fw_rk cal < fw_rk k ∧ cal < 137 ∧ cal ≠ 0 then
    if rcv then match r0 with
      | (2, r) :: rest => if fw_kd r = (fw_oc cal : Int) + 3 ∧ rest.length ≤ 4 then some (.inr (.inr (cal, (2, r) :: as, rest))) else none
      | _ => none
    else if r0.length ≤ 4 then some (.inr (.inr (cal, as, r0))) else none
  else none
/-- an answer that fits what the method says it answers -/
def fw_ri (k : Nat) (x : Int) : Bool := match fw_rt k with
  | some .int => true
  | some .boolean => decide (x = 0 ∨ x = 1)
  | some .char => decide (0 ≤ x ∧ x < 65536)
  | _ => false
def fw_dd (x : Int) : UInt64 := UInt64.ofNat x.toNat
def fw_ff (x : Int) : UInt32 := UInt32.ofNat x.toNat
def fw_n64 (r : UInt64) : Bool := decide (r &&& 0x7fffffffffffffff ≤ 0x7ff0000000000000)
def fw_n32 (r : UInt32) : Bool := decide (r &&& 0x7fffffff ≤ 0x7f800000)
def fw_si (k pc : Nat) (ll st : List fw_V) (σ : fw_M) (i : Instr) : Option fw_A := match i with
  | .iconst n => fw_nx (pc + 1) ll ((0, (Int32.ofInt n).toInt) :: st) σ
  | .bipush n => fw_nx (pc + 2) ll ((0, (Int8.ofInt n).toInt32.toInt) :: st) σ
  | .sipush n => fw_nx (pc + 3) ll ((0, (Int16.ofInt n).toInt32.toInt) :: st) σ
  | .lconst n => fw_nx (pc + 1) ll ((1, (Int64.ofNat (n : Nat)).toInt) :: st) σ
  | .fconst n => if n = 0 then fw_nx (pc + 1) ll ((4, (FP.fconst0.toNat : Int)) :: st) σ else none
  | .dconst n => if n = 0 then fw_nx (pc + 1) ll ((3, (FP.dconst0.toNat : Int)) :: st) σ else none
  | .aconst_null => fw_nx (pc + 1) ll ((2, 0) :: st) σ
  | .ldc n => match fw_ck (fw_oc k) n with
    | some v => fw_nx (pc + 2) ll ((0, v) :: st) σ
    | none => none
  | .ldc2_w n => match fw_cl2 (fw_oc k) n with
    | some v => fw_nx (pc + 3) ll ((1, v) :: st) σ
    | none => none
  | .iload_n n => if (fw_g ll n).1 = 0 then fw_nx (pc + 1) ll (fw_g ll n :: st) σ else none
  | .iload n => if (fw_g ll n).1 = 0 then fw_nx (pc + 2) ll (fw_g ll n :: st) σ else none
  | .aload_n n => if (fw_g ll n).1 = 2 ∨ (fw_g ll n).1 = 6 then fw_nx (pc + 1) ll (fw_g ll n :: st) σ else none
  | .aload n => if (fw_g ll n).1 = 2 ∨ (fw_g ll n).1 = 6 then fw_nx (pc + 2) ll (fw_g ll n :: st) σ else none
  | .lload_n n => if (fw_g ll n).1 = 1 then fw_nx (pc + 1) ll (fw_g ll n :: st) σ else none
  | .lload n => if (fw_g ll n).1 = 1 then fw_nx (pc + 2) ll (fw_g ll n :: st) σ else none
  | .fload n => if (fw_g ll n).1 = 4 then fw_nx (pc + 2) ll (fw_g ll n :: st) σ else none
  | .istore_n n => match st with
    | (0, x) :: r => if fw_so k ll n then fw_nx (pc + 1) (ll.set n (0, x)) r σ else none
    | _ => none
  | .istore n => match st with
    | (0, x) :: r => if fw_so k ll n then fw_nx (pc + 2) (ll.set n (0, x)) r σ else none
    | _ => none
  | .astore_n n => match st with
    | (2, x) :: r => if fw_so k ll n then fw_nx (pc + 1) (ll.set n (2, x)) r σ else none
    | (7, x) :: r => if fw_so k ll n then fw_nx (pc + 1) (ll.set n (7, x)) r σ else none
    | _ => none
  | .astore n => match st with
    | (2, x) :: r => if fw_so k ll n then fw_nx (pc + 2) (ll.set n (2, x)) r σ else none
    | (7, x) :: r => if fw_so k ll n then fw_nx (pc + 2) (ll.set n (7, x)) r σ else none
    | _ => none
  | .fstore n => match st with
    | (4, x) :: r => if fw_so k ll n then fw_nx (pc + 2) (ll.set n (4, x)) r σ else none
    | _ => none
  | .lstore_n n => match st with
    | (1, x) :: r => if fw_so k ll n ∧ k = fw_KS ∧ (n : Nat) + 1 < fw_mL k then fw_nx (pc + 1) ((ll.set n (1, x)).set ((n : Nat) + 1) (8, 0)) r σ else none
    | _ => none
  | .lstore n => match st with
    | (1, x) :: r => if fw_so k ll n ∧ k = fw_KS ∧ n + 1 < fw_mL k then fw_nx (pc + 2) ((ll.set n (1, x)).set (n + 1) (8, 0)) r σ else none
    | _ => none
  | .iinc n c => if (fw_g ll n).1 = 0 ∧ fw_so k ll n then fw_nx (pc + 3) (ll.set n (0, fw_w ((fw_g ll n).2 + c))) st σ else none
  | .iadd => match st with
    | (0, y) :: (0, x) :: r => fw_nx (pc + 1) ll ((0, fw_w (x + y)) :: r) σ
    | _ => none
  | .isub => match st with
    | (0, y) :: (0, x) :: r => fw_nx (pc + 1) ll ((0, fw_w (x - y)) :: r) σ
    | _ => none
  | .imul => match st with
    | (0, y) :: (0, x) :: r => fw_nx (pc + 1) ll ((0, fw_w (x * y)) :: r) σ
    | _ => none
  | .irem => match st with
    | (0, y) :: (0, x) :: r => if 0 ≤ x ∧ 0 < y then fw_nx (pc + 1) ll ((0, x % y) :: r) σ else none
    | _ => none
  | .iand => match st with
    | (0, y) :: (0, x) :: r => fw_nx (pc + 1) ll ((0, fw_an x y) :: r) σ
    | _ => none
  | .ishr => match st with
    | (0, y) :: (0, x) :: r => fw_nx (pc + 1) ll ((0, fw_sh x y) :: r) σ
    | _ => none
  | .lrem => match st with
    | (1, y) :: (1, x) :: r => if 0 ≤ x ∧ 0 < y then fw_nx (pc + 1) ll ((1, x % y) :: r) σ else none
    | _ => none
  | .lmul => match st with
    | (1, y) :: (1, x) :: r => fw_nx (pc + 1) ll ((1, fw_wl (x * y)) :: r) σ
    | _ => none
  | .l2i => match st with
    | (1, x) :: r => fw_nx (pc + 1) ll ((0, fw_w x) :: r) σ
    | _ => none
  | .ladd => match st with
    | (1, y) :: (1, x) :: r => fw_nx (pc + 1) ll ((1, fw_wl (x + y)) :: r) σ
    | _ => none
  | .lcmp => match st with
    | (1, y) :: (1, x) :: r => fw_nx (pc + 1) ll ((0, if y < x then 1 else if x = y then 0 else -1) :: r) σ
    | _ => none
  | .i2l => match st with
    | (0, x) :: r => fw_nx (pc + 1) ll ((1, x) :: r) σ
    | _ => none
  | .i2d => match st with
    | (0, x) :: r => fw_nx (pc + 1) ll ((3, ((FP.i2d (Int32.ofInt x)).toNat : Int)) :: r) σ
    | _ => none
  | .i2f => match st with
    | (0, x) :: r => fw_nx (pc + 1) ll ((4, ((FP.i2f (Int32.ofInt x)).toNat : Int)) :: r) σ
    | _ => none
  | .l2d => match st with
    | (1, x) :: r => fw_nx (pc + 1) ll ((3, ((FP.l2d (Int64.ofInt x)).toNat : Int)) :: r) σ
    | _ => none
  | .f2d => match st with
    | (4, x) :: r => if fw_n64 (FP.f2d (fw_ff x)) then fw_nx (pc + 1) ll ((3, ((FP.f2d (fw_ff x)).toNat : Int)) :: r) σ else none
    | _ => none
  | .ddiv => match st with
    | (3, y) :: (3, x) :: r => if fw_n64 (FP.ddiv (fw_dd x) (fw_dd y)) then fw_nx (pc + 1) ll ((3, ((FP.ddiv (fw_dd x) (fw_dd y)).toNat : Int)) :: r) σ else none
    | _ => none
  | .fdiv => match st with
    | (4, y) :: (4, x) :: r => if fw_n32 (FP.fdiv (fw_ff x) (fw_ff y)) then fw_nx (pc + 1) ll ((4, ((FP.fdiv (fw_ff x) (fw_ff y)).toNat : Int)) :: r) σ else none
    | _ => none
  | .dcmp op => match st with
    | (3, y) :: (3, x) :: r => fw_nx (pc + 1) ll ((0, (Op.cmpValue (FP.dcmp (fw_dd x) (fw_dd y)) op).toInt) :: r) σ
    | _ => none
  | .fcmp op => match st with
    | (4, y) :: (4, x) :: r => fw_nx (pc + 1) ll ((0, (Op.cmpValue (FP.fcmp (fw_ff x) (fw_ff y)) op).toInt) :: r) σ
    | _ => none
  | .dup => match st with
    | (t, x) :: r => if t = 0 ∨ t = 2 then fw_nx (pc + 1) ll ((t, x) :: (t, x) :: r) σ else none
    | _ => none
  | .dup2 => match st with
    | (0, x) :: (2, y) :: r => fw_nx (pc + 1) ll ((0, x) :: (2, y) :: (0, x) :: (2, y) :: r) σ
    | _ => none
  | .dup_x2 => match st with
    | (0, x) :: (0, y) :: (2, z) :: r => fw_nx (pc + 1) ll ((0, x) :: (0, y) :: (2, z) :: (0, x) :: r) σ
    | _ => none
  | .pop => match st with
    | (t, _) :: r => if t = 0 ∨ t = 2 then fw_nx (pc + 1) ll r σ else none
    | _ => none
  | .goto off => if 0 ≤ (pc : Int) + off then fw_nx (fw_tgt pc off) ll st σ else none
  | .ifCond c off => match st with
    | (0, x) :: r => if 0 ≤ (pc : Int) + off then fw_br pc off (fw_ifc c x 0 = true) ll r σ else none
    | _ => none
  | .if_icmp c off => match st with
    | (0, y) :: (0, x) :: r => if 0 ≤ (pc : Int) + off then fw_br pc off (fw_ifc c x y = true) ll r σ else none
    | _ => none
  | .ifnull off => match st with
    | (2, x) :: r => if 0 ≤ (pc : Int) + off then fw_br pc off (x = 0) ll r σ else none
    | _ => none
  | .ifnonnull off => match st with
    | (2, x) :: r => if 0 ≤ (pc : Int) + off then fw_br pc off (x ≠ 0) ll r σ else none
    | _ => none
  | .tableswitch d lo hi offs => match st with
    | (0, x) :: r => if x < lo ∨ hi < x then (if 0 ≤ (pc : Int) + d then fw_nx (fw_tgt pc d) ll r σ else none) else match offs[(x - lo).toNat]? with
      | some off => if 0 ≤ (pc : Int) + off then fw_nx (fw_tgt pc off) ll r σ else none
      | none => none
    | _ => none
  | .iaload => match st with
    | (0, i) :: (2, a) :: r => if fw_kd a = 100 ∧ 0 ≤ i ∧ i < fw_ln a then fw_nx (pc + 1) ll ((0, σ a i) :: r) σ else none
    | (0, i) :: (6, _) :: r => if 0 ≤ i ∧ i < σ (-3) 0 then fw_nx (pc + 1) ll ((0, σ (-2) i) :: r) σ else none
    | _ => none
  | .caload => match st with
    | (0, i) :: (2, a) :: r => if fw_kd a = 101 ∧ 0 ≤ i ∧ i < fw_ln a then fw_nx (pc + 1) ll ((0, σ a i) :: r) σ else none
    | _ => none
  | .baload => match st with
    | (0, i) :: (2, a) :: r => if fw_kd a = 102 ∧ 0 ≤ i ∧ i < fw_ln a then fw_nx (pc + 1) ll ((0, σ a i) :: r) σ else none
    | _ => none
  | .laload => match st with
    | (0, i) :: (2, a) :: r => if fw_kd a = 103 ∧ 0 ≤ i ∧ i < fw_ln a then fw_nx (pc + 1) ll ((1, σ a i) :: r) σ else none
    | _ => none
  | .daload => match st with
    | (0, i) :: (2, a) :: r => if fw_kd a = 104 ∧ 0 ≤ i ∧ i < fw_ln a then fw_nx (pc + 1) ll ((3, σ a i) :: r) σ else none
    | _ => none
  | .aaload => match st with
    | (0, i) :: (2, a) :: r => if (fw_kd a = 105 ∨ fw_kd a = 106) ∧ 0 ≤ i ∧ i < fw_ln a then fw_nx (pc + 1) ll ((2, σ a i) :: r) σ else none
    | _ => none
  | .iastore => match st with
    | (0, v) :: (0, i) :: (2, a) :: r => if fw_kd a = 100 ∧ 0 ≤ i ∧ i < fw_ln a then fw_nx (pc + 1) ll r (fw_u σ a i v) else none
    | _ => none
  | .castore => match st with
    | (0, v) :: (0, i) :: (2, a) :: r => if fw_kd a = 101 ∧ 0 ≤ i ∧ i < fw_ln a ∧ 0 ≤ v ∧ v < 65536 then fw_nx (pc + 1) ll r (fw_u σ a i v) else none
    | _ => none
  | .bastore => match st with
    | (0, v) :: (0, i) :: (2, a) :: r => if fw_kd a = 102 ∧ 0 ≤ i ∧ i < fw_ln a ∧ (v = 0 ∨ v = 1) then fw_nx (pc + 1) ll r (fw_u σ a i v) else none
    | _ => none
  | .lastore => match st with
    | (1, v) :: (0, i) :: (2, a) :: r => if fw_kd a = 103 ∧ 0 ≤ i ∧ i < fw_ln a then fw_nx (pc + 1) ll r (fw_u σ a i v) else none
    | _ => none
  | .dastore => match st with
    | (3, v) :: (0, i) :: (2, a) :: r => if fw_kd a = 104 ∧ 0 ≤ i ∧ i < fw_ln a then fw_nx (pc + 1) ll r (fw_u σ a i v) else none
    | _ => none
  | .aastore => match st with
    | (2, v) :: (0, i) :: (2, a) :: r => if fw_kd a = 105 ∧ fw_kd v = 4 ∧ 0 ≤ i ∧ i < fw_ln a then fw_nx (pc + 1) ll r (fw_u σ a i v) else none
    | _ => none
  | .arraylength => match st with
    | (2, a) :: r => if 100 ≤ fw_kd a then fw_nx (pc + 1) ll ((0, fw_ln a) :: r) σ else none
    | (6, _) :: r => if σ (-3) 0 < 2147483648 then fw_nx (pc + 1) ll ((0, σ (-3) 0) :: r) σ else none
    | _ => none
  | .getfield n => match st with
    | (2, a) :: r => match fw_fr (fw_oc k) n with
      | some (c, j) => if fw_kd a = (c : Int) + 3 then fw_nx (pc + 3) ll ((fw_tg (fw_fk c j), σ a (j : Int)) :: r) σ else none
      | none => none
    | _ => none
  | .putfield n => match st with
    | (t, v) :: (2, a) :: r => match fw_fr (fw_oc k) n with
      | some (c, j) => if fw_kd a = (c : Int) + 3 ∧ t = fw_tg (fw_fk c j) ∧ (fw_fk c j = 10 → v = 0 ∨ v = 1) ∧ ((fw_CT c j).2.2.2 = true → fw_ki k = 2 ∧ fw_oc k = c) then fw_nx (pc + 3) ll r (fw_u σ a (j : Int) v) else none
      | none => none
    | _ => none
  | .new n => match fw_cr (fw_oc k) n with
    | some c => if fw_kd (σ (-1) 0) = (c : Int) + 3 then fw_nx (pc + 3) ll ((2, σ (-1) 0) :: st) (fw_nw σ (fw_nf c)) else none
    | none => match fw_xr n with
      | some (ic, x) => if fw_oc k = 8 ∧ fw_hs k = [] ∧ st = [] ∧ 4 ≤ fw_rk k ∧ fw_dec k (pc + 3) = some (.dup, 1) ∧ fw_dec k (pc + 4) = some (.invokespecial ic, 3) ∧ fw_dec k (pc + 7) = some (.athrow, 1) then fw_fi (9, (x : Int)) (fw_ex σ) else none
      | none => none
  | .newarray t => match st with
    | (0, n) :: r => if 0 ≤ n ∧ n ≤ 300 ∧ fw_kd (σ (-1) 0) = fw_ak t ∧ fw_ln (σ (-1) 0) = n then fw_nx (pc + 2) ll ((2, σ (-1) 0) :: r) (fw_nw σ n) else none
    | _ => none
  | .anewarray m => match st with
    | (0, n) :: r => if fw_oc k = 6 ∧ m = 9 ∧ 0 ≤ n ∧ n ≤ 300 ∧ fw_kd (σ (-1) 0) = 105 ∧ fw_ln (σ (-1) 0) = n then fw_nx (pc + 3) ll ((2, σ (-1) 0) :: r) (fw_nw σ n) else none
    | _ => none
  | .multianewarray m d => match st with
    | [(0, x), (0, y), (2, z)] => if x = 30 ∧ y = 6 ∧ fw_oc k = 9 ∧ m = 23 ∧ d = 2 ∧ σ (-1) 0 = 37 then fw_nx (pc + 4) ll [(2, 37), (2, z)] (fw_mn σ) else none
    | _ => none
  | .invokevirtual n => match fw_mr (fw_oc k) n with
    | some (cal, 0) => if fw_ki cal = 0 then fw_ca k cal true st else none
    | _ => none
  | .invokespecial n => match fw_mr (fw_oc k) n with
    | some (1002, 0) => match st with
      | (2, x) :: r => if x ≠ 0 ∧ r.length ≤ 4 then fw_nx (pc + 3) ll r σ else none
      | _ => none
    | some (cal, _) => if fw_ki cal = 2 then fw_ca k cal true st else none
    | none => none
  | .invokestatic n => match fw_mr (fw_oc k) n with
    | some (1000, 0) => match st with
      | (0, y) :: (0, x) :: r => if r.length ≤ 4 then fw_nx (pc + 3) ll ((0, if x < y then y else x) :: r) σ else none
      | _ => none
    | some (1001, 0) => match st with
      | (0, y) :: (0, x) :: r => if r.length ≤ 4 then fw_nx (pc + 3) ll ((0, if y < x then y else x) :: r) σ else none
      | _ => none
    | some (cal, _) => if fw_ki cal = 1 ∨ fw_ki cal = 3 then fw_ca k cal false st else none
    | none => none
  | .ireturn => match st with
    | [(0, x)] => if fw_ri k x then fw_fi (0, x) σ else none
    | _ => none
  | .lreturn => match st with
    | [(1, x)] => if fw_rt k = some .long then fw_fi (1, x) σ else none
    | _ => none
  | .dreturn => match st with
    | [(3, x)] => if fw_rt k = some .double then fw_fi (3, x) σ else none
    | _ => none
  | .freturn => match st with
    | [(4, x)] => if fw_rt k = some .float then fw_fi (4, x) σ else none
    | _ => none
  | .areturn => match st with
    | [(2, x)] => if fw_rt k = some (.object RX1) then fw_fi (2, x) σ else none
    | _ => none
  | .return_ => if fw_rt k = none ∧ st = [] then fw_fi (5, 0) σ else none
  | _ => none
/-- how long an instruction is -/
def fw_il (i : Instr) (n : Nat) : Bool := match i with
  | .bipush _ | .ldc _ | .iload _ | .aload _ | .lload _ | .fload _ | .istore _ | .astore _ | .fstore _ | .lstore _ | .newarray _ => n == 2
  | .multianewarray _ _ => n == 4
  | .sipush _ | .ldc2_w _ | .iinc _ _ | .goto _ | .ifCond _ _ | .if_icmp _ _ | .ifnull _ | .ifnonnull _ | .getfield _ | .putfield _ | .new _ | .anewarray _ | .invokevirtual _ | .invokespecial _ | .invokestatic _ => n == 3
  | .tableswitch _ _ _ _ => true
  | _ => n == 1
def fw_s1 (k pc : Nat) (ll st : List fw_V) (σ : fw_M) : Option fw_A := match fw_dec k pc with
  | some (i, n) => if fw_il i n then fw_si k pc ll st σ i else none
  | none => none
/-- behind a call -/
def fw_af (k pc : Nat) (ll rest : List fw_V) (o : fw_O) : Option ((Nat × List fw_V × List fw_V × fw_M) ⊕ fw_O) :=
  if o.1.1 = 9 then match fw_hd k pc o.1.2.toNat with
    | some h => some (.inl (h, ll, [(7, 0)], o.2))
    | none => if k ≠ 0 ∧ fw_hs k = [] then some (.inr o) else none
  else if o.1.1 = 5 then some (.inl (pc + 3, ll, rest, o.2)) else some (.inl (pc + 3, ll, o.1 :: rest, o.2))
def fw_en (k : Nat) (as : List fw_V) : List fw_V := as ++ List.replicate (fw_mL k - as.length) (8, 0)
/-- n steps at most -/
def fw_ev : Nat → Nat → Nat → List fw_V → List fw_V → fw_M → Option fw_O
  | 0, _, _, _, _, _ => none
  | n + 1, k, pc, ll, st, σ => match fw_s1 k pc ll st σ with
    | none => none
    | some (.inl (pc', ll', st', σ')) => fw_ev n k pc' ll' st' σ'
    | some (.inr (.inl o)) => some o
    | some (.inr (.inr (c, as, rest))) => match fw_ev n c 0 (fw_en c as) [] σ with
      | none => none
      | some o => match fw_af k pc ll rest o with
        | none => none
        | some (.inl (pc', ll', st', σ')) => fw_ev n k pc' ll' st' σ'
        | some (.inr o') => some o'
