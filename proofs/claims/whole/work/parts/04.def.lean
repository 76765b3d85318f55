/-! the small machine: a program's methods by number, its cells by number (1 ..; null is 0), all values whole numbers with a tag -/
abbrev fw_V : Type := Nat × Int
abbrev fw_M : Type := Int → Int → Int
abbrev fw_O : Type := fw_V × fw_M
/-- a step's outcome: on within the method; the method's end; a call (callee, arguments, the stack below them) -/
abbrev fw_A : Type := (Nat × List fw_V × List fw_V × fw_M) ⊕ (fw_O ⊕ (Nat × List fw_V × List fw_V))
def fw_w (x : Int) : Int := x.bmod 4294967296
def fw_wl (x : Int) : Int := x.bmod 18446744073709551616
def fw_u (σ : fw_M) (k j v : Int) : fw_M := fun a b => if a = k ∧ b = j then v else σ a b
/-- a new cell of n slots, all 0; row -1 holds the next cell's number, how many cells and slots were made -/
def fw_nw (σ : fw_M) (n : Int) : fw_M := fun a b => if a = σ (-1) 0 then 0 else if a = -1 then (if b = 0 then σ (-1) 0 + 1 else if b = 1 then σ (-1) 1 + 1 else if b = 2 then σ (-1) 2 + n else σ a b) else σ a b
/-- an exception's cell: counted, not numbered -/
def fw_ex (σ : fw_M) : fw_M := fun a b => if a = -1 then (if b = 1 then σ (-1) 1 + 1 else if b = 2 then σ (-1) 2 + 6 else σ a b) else σ a b
def fw_g : List fw_V → Nat → fw_V
  | [], _ => (8, 0)
  | a :: _, 0 => a
  | _ :: l, n + 1 => fw_g l n
def fw_CN : Nat → String
  | 0 => RX0
  | 1 => RX1
  | 2 => RX2
  | 3 => RX3
  | 4 => RX4
  | 5 => RX5
  | 6 => RX6
  | 7 => RX7
  | 8 => RX8
  | 9 => RX9
  | _ => RL
def fw_CT : Nat → u_T
  | 0 => TX0
  | 1 => TX1
  | 2 => TX2
  | 3 => TX3
  | 4 => TX4
  | 5 => TX5
  | 6 => TX6
  | 7 => TX7
  | 8 => TX8
  | _ => TX9
def fw_ty : Nat → Nat → FieldType
  | 0 => tyX0
  | 1 => tyX1
  | 2 => tyX2
  | 3 => tyX3
  | 4 => tyX4
  | 5 => tyX5
  | 6 => tyX6
  | 7 => tyX7
  | 8 => tyX8
  | _ => tyX9
def fw_nf : Nat → Nat
  | 0 => 4
  | 1 => 6
  | 2 => 3
  | 3 => 9
  | 4 => 10
  | 5 => 2
  | 6 => 7
  | 7 => 4
  | 8 => 9
  | 9 => 35
  | _ => 0
/-- kinds of fields: 0 int, 1 long, 2 reference, 10 boolean -/
def fw_fkT : List (List Nat) := [[2, 2, 0, 0], [0, 2, 0, 10, 0, 0], [2, 2, 0], [2, 2, 2, 2, 2, 2, 2, 2, 0], [2, 2, 2, 2, 2, 0, 0, 0, 1, 1], [2, 0], [2, 2, 0, 0, 0, 10, 10], [2, 2, 2, 2], [2, 2, 2, 2, 2, 2, 2, 2, 1], [0, 0, 2, 0, 2, 2, 2, 10, 10, 0, 0, 2, 2, 2, 2, 0, 1, 0, 0, 0, 2, 2, 2, 2, 2, 0, 2, 2, 2, 1, 2, 2, 2, 2, 2]]
def fw_fk (c j : Nat) : Nat := (fw_fkT.getD c []).getD j 0
def fw_tg (f : Nat) : Nat := if f = 10 then 0 else f
/-- what each cell is: 3 + the class's number, or 100 int[], 101 char[], 102 boolean[], 103 long[], 104 double[], 105 CrossdockSorter$Chute[] -/
def fw_kdT : List Int := [11, 7, 100, 100, 101, 100, 100, 3, 100, 100, 9, 105, 100, 10, 100, 100, 6, 3, 100, 100, 100, 100, 100, 100, 8, 100, 5, 8, 100, 100, 100, 12, 100, 100, 100, 102, 100, 100, 100, 100, 100, 100, 100, 100, 100, 100, 100, 100, 100, 100, 100, 100, 100, 103, 104]
def fw_lnT : List Int := [0, 0, 300, 300, 300, 300, 300, 0, 20, 20, 0, 6, 8, 0, 8, 6, 0, 0, 20, 20, 20, 20, 20, 6, 0, 300, 0, 0, 300, 300, 300, 0, 20, 6, 6, 6, 300, 300, 300, 300, 8, 6, 180, 6, 6, 300, 300, 300, 20, 300, 6, 6, 8, 1, 1]
def fw_kd (k : Int) : Int := if k ≤ 0 then 0 else if k ≤ 55 then fw_kdT.getD (k - 1).toNat 0 else if k % 3 = 2 then 4 else if k % 3 = 0 then 8 else 100
def fw_ln (k : Int) : Int := if k ≤ 0 then 0 else if k ≤ 55 then fw_lnT.getD (k - 1).toNat 0 else 30
def fw_xn : Nat → String
  | 0 => "java/lang/IllegalArgumentException"
  | 1 => "java/lang/IllegalStateException"
  | 2 => "java/lang/UnsupportedOperationException"
  | 3 => "java/lang/IndexOutOfBoundsException"
  | 4 => "java/util/NoSuchElementException"
  | _ => "java/lang/ArithmeticException"
/-- a method: its name, code, locals, answer, class, height, kind (0 of an object, 1 static, 2 constructor, 3 static with handlers, 4 the law), its parameters' tags, handlers (the last number: the exception) -/
abbrev fw_R : Type := MethodName × ByteArray × Nat × Option FieldType × Nat × Nat × Nat × List Nat × List (Nat × Nat × Nat × Nat × Nat)
def fw_tab0 : List fw_R := [(yL_law, cL_law, 9, (some .boolean), 10, 8, 4, [2], []),
  (yX0_init, cX0_init, 1, none, 0, 1, 2, [], []),
  (yX0_makeEmpty, cX0_makeEmpty, 3, none, 0, 0, 0, [0], []),
  (yX0_copyFrom, cX0_copyFrom, 3, none, 0, 0, 0, [2], []),
  (yX0_has, cX0_has, 2, (some (.boolean)), 0, 0, 0, [0], []),
  (yX0_slotOf, cX0_slotOf, 3, (some (.int)), 0, 1, 0, [0], []),
  (yX0_move, cX0_move, 2, none, 0, 2, 0, [], []),
  (yX0_parcelAt, cX0_parcelAt, 3, (some (.int)), 0, 2, 0, [0], []),
  (yX0_roundsAt, cX0_roundsAt, 3, (some (.int)), 0, 2, 0, [0], []),
  (yX0_positionWith, cX0_positionWith, 3, (some (.int)), 0, 3, 0, [0], []),
  (yX0_put, cX0_put, 4, none, 0, 2, 0, [0, 0], []),
  (yX0_takeFrom, cX0_takeFrom, 2, none, 0, 3, 0, [0], []),
  (yX1_init, cX1_init, 3, none, 1, 1, 2, [0, 0], []),
  (yX1_drop, cX1_drop, 2, none, 1, 1, 0, [0], []),
  (yX1_clear, cX1_clear, 1, none, 1, 0, 0, [], []),
  (yX1_keptSeal, cX1_keptSeal, 1, (some (.int)), 1, 0, 0, [], []),
  (yX1_sealOfContent, cX1_sealOfContent, 1, (some (.int)), 1, 2, 0, [], []),
  (yX2_init, cX2_init, 1, none, 2, 1, 2, [], []),
  (yX2_has, cX2_has, 2, (some (.boolean)), 2, 0, 0, [0], []),
  (yX2_take, cX2_take, 4, (some (.int)), 2, 1, 0, [2], []),
  (yX2_startOf, cX2_startOf, 2, (some (.int)), 2, 1, 0, [0], []),
  (yX2_sizeOf, cX2_sizeOf, 2, (some (.int)), 2, 2, 0, [0], []),
  (yX2_parcelAt, cX2_parcelAt, 3, (some (.int)), 2, 2, 0, [0, 0], []),
  (yX2_sealOf, cX2_sealOf, 2, (some (.int)), 2, 3, 0, [0], []),
  (yX3_init, cX3_init, 4, none, 3, 2, 2, [2, 2, 2], []),
  (yX3_byOrigin, cX3_byOrigin, 4, (some (.int)), 3, 5, 0, [0], []),
  (yX3_byTrays, cX3_byTrays, 5, (some (.int)), 3, 5, 0, [0], []),
  (yX3_begin, cX3_begin, 3, none, 3, 1, 0, [], []),
  (yX3_moveOrigin, cX3_moveOrigin, 4, (some (.int)), 3, 4, 0, [], []),
  (yX3_moveTray, cX3_moveTray, 4, (some (.int)), 3, 4, 0, [0], []),
  (yX3_loadTray, cX3_loadTray, 2, none, 3, 1, 0, [0], []),
  (yX3_chuteGets, cX3_chuteGets, 3, (some (.boolean)), 3, 3, 0, [0, 0], []),
  (yX4_init, cX4_init, 1, none, 4, 0, 2, [], []),
  (yX4_has, cX4_has, 2, (some (.boolean)), 4, 0, 0, [0], []),
  (yX4_add, cX4_add, 4, (some (.int)), 4, 0, 0, [0, 0], []),
  (yX4_loadFirst, cX4_loadFirst, 2, (some (.int)), 4, 1, 0, [], []),
  (yX4_leave, cX4_leave, 4, none, 4, 1, 0, [0, 0, 0], []),
  (yX4_enterTruck, cX4_enterTruck, 3, none, 4, 1, 0, [0, 0], []),
  (yX4_routeAt, cX4_routeAt, 2, (some (.int)), 4, 1, 0, [0], []),
  (yX4_stateAt, cX4_stateAt, 2, (some (.char)), 4, 1, 0, [0], []),
  (yX4_lastRoundsAt, cX4_lastRoundsAt, 2, (some (.int)), 4, 1, 0, [0], []),
  (yX4_truckAt, cX4_truckAt, 2, (some (.int)), 4, 1, 0, [0], []),
  (yX4_loadOf, cX4_loadOf, 5, (some (.int)), 4, 0, 0, [0], []),
  (yX5_init, cX5_init, 2, none, 5, 0, 2, [0], []),
  (yX5_at, cX5_at, 2, (some (.int)), 5, 0, 0, [0], []),
  (yX5_add, cX5_add, 2, none, 5, 0, 0, [0], []),
  (yX5_sealOf, cX5_sealOf, 6, (some (.int)), 5, 1, 0, [0, 0], []),
  (yX6_init, cX6_init, 2, none, 6, 0, 2, [], []),
  (yX6_build, cX6_build, 4, (some (.int)), 6, 2, 0, [0, 0], []),
  (yX6_chute, cX6_chute, 2, (some (.object "CrossdockSorter$Chute")), 6, 0, 0, [0], [])]
def fw_tab1 : List fw_R := [(yX6_numberAt, cX6_numberAt, 4, (some (.int)), 6, 1, 0, [0], []),
  (yX6_chuteAt, cX6_chuteAt, 2, (some (.object "CrossdockSorter$Chute")), 6, 2, 0, [0], []),
  (yX6_kindAt, cX6_kindAt, 2, (some (.char)), 6, 3, 0, [0], []),
  (yX6_isJammed, cX6_isJammed, 3, (some (.boolean)), 6, 3, 0, [0], []),
  (yX6_setJammed, cX6_setJammed, 4, none, 6, 3, 0, [0, 0], []),
  (yX6_jams, cX6_jams, 4, (some (.int)), 6, 1, 0, [], []),
  (yX6_hasChuteNotJammed, cX6_hasChuteNotJammed, 3, (some (.boolean)), 6, 1, 0, [], []),
  (yX6_chuteOfRoute, cX6_chuteOfRoute, 2, (some (.int)), 6, 1, 0, [0], []),
  (yX6_send, cX6_send, 3, none, 6, 1, 0, [0, 0], []),
  (yX6_loaderPuts, cX6_loaderPuts, 4, (some (.boolean)), 6, 0, 0, [0, 0, 0], []),
  (yX6_chuteTakes, cX6_chuteTakes, 5, (some (.boolean)), 6, 2, 0, [0, 0, 0], []),
  (yX6_overflowTakes, cX6_overflowTakes, 3, (some (.boolean)), 6, 0, 0, [0, 0], []),
  (yX6_sealsAgree, cX6_sealsAgree, 3, (some (.boolean)), 6, 3, 0, [], []),
  (yX7_init, cX7_init, 3, none, 7, 0, 2, [2, 2], []),
  (yX7_assignAnew, cX7_assignAnew, 3, (some (.int)), 7, 3, 0, [], []),
  (yX7_assignOne, cX7_assignOne, 3, (some (.int)), 7, 2, 0, [0, 0], []),
  (yX7_heaviestRoute, cX7_heaviestRoute, 4, (some (.int)), 7, 0, 0, [], []),
  (yX7_lightestChute, cX7_lightestChute, 5, (some (.int)), 7, 1, 0, [], []),
  (yX8_init, cX8_init, 1, none, 8, 3, 2, [], []),
  (yX8_setLoop, cX8_setLoop, 3, (some (.int)), 8, 1, 0, [0], []),
  (yX8_addChute, cX8_addChute, 3, (some (.int)), 8, 3, 0, [0, 0], []),
  (yX8_setCapacity, cX8_setCapacity, 5, (some (.int)), 8, 2, 0, [0, 0], []),
  (yX8_setLimit, cX8_setLimit, 3, (some (.int)), 8, 0, 0, [0], []),
  (yX8_jam, cX8_jam, 2, (some (.int)), 8, 5, 0, [0], []),
  (yX8_free, cX8_free, 2, (some (.int)), 8, 5, 0, [0], []),
  (yX8_stationAt, cX8_stationAt, 2, (some (.char)), 8, 4, 0, [0], []),
  (yX8_arrive, cX8_arrive, 3, (some (.int)), 8, 1, 0, [0, 0], []),
  (yX8_pass, cX8_pass, 4, (some (.int)), 8, 6, 0, [0], []),
  (yX8_tick, cX8_tick, 1, (some (.long)), 8, 0, 0, [], []),
  (yX8_stateOf, cX8_stateOf, 2, (some (.char)), 8, 2, 0, [0], []),
  (yX8_positionOf, cX8_positionOf, 3, (some (.int)), 8, 4, 0, [0], []),
  (yX8_roundsOf, cX8_roundsOf, 3, (some (.int)), 8, 4, 0, [0], []),
  (yX8_trayAt, cX8_trayAt, 3, (some (.int)), 8, 3, 0, [0], []),
  (yX8_waiting, cX8_waiting, 1, (some (.int)), 8, 0, 0, [], []),
  (yX8_onLoop, cX8_onLoop, 1, (some (.int)), 8, 0, 0, [], []),
  (yX8_overflowed, cX8_overflowed, 1, (some (.int)), 8, 0, 0, [], []),
  (yX8_leavingAhead, cX8_leavingAhead, 2, (some (.int)), 8, 6, 0, [0], []),
  (yX8_leavingByTrays, cX8_leavingByTrays, 2, (some (.int)), 8, 6, 0, [0], []),
  (yX8_startWave, cX8_startWave, 1, (some (.int)), 8, 4, 0, [], []),
  (yX8_assign, cX8_assign, 4, (some (.int)), 8, 2, 0, [0, 0], []),
  (yX8_unassign, cX8_unassign, 3, (some (.int)), 8, 2, 0, [0], []),
  (yX8_chuteFor, cX8_chuteFor, 3, (some (.int)), 8, 2, 0, [0], []),
  (yX8_load, cX8_load, 2, (some (.int)), 8, 2, 0, [0], []),
  (yX8_inChute, cX8_inChute, 2, (some (.int)), 8, 2, 0, [0], []),
  (yX8_seal, cX8_seal, 2, (some (.int)), 8, 2, 0, [0], []),
  (yX8_sealByParcels, cX8_sealByParcels, 2, (some (.int)), 8, 3, 0, [0], []),
  (yX8_dispatch, cX8_dispatch, 6, (some (.int)), 8, 2, 0, [0], []),
  (yX8_trucks, cX8_trucks, 1, (some (.int)), 8, 0, 0, [], []),
  (yX8_sealOfTruck, cX8_sealOfTruck, 2, (some (.int)), 8, 4, 0, [0], []),
  (yX8_parcelIn, cX8_parcelIn, 3, (some (.int)), 8, 3, 0, [0, 0], [])]
def fw_tab2 : List fw_R := [(yX8_truckOf, cX8_truckOf, 2, (some (.int)), 8, 2, 0, [0], []),
  (yX8_shipped, cX8_shipped, 1, (some (.long)), 8, 0, 0, [], []),
  (yX8_meanRounds, cX8_meanRounds, 1, (some (.double)), 8, 1, 0, [], []),
  (yX8_overflowShare, cX8_overflowShare, 1, (some (.float)), 8, 1, 0, [], []),
  (yX8_isOnce, cX8_isOnce, 1, (some (.boolean)), 8, 6, 0, [], []),
  (yX8_isCapacity, cX8_isCapacity, 1, (some (.boolean)), 8, 0, 1, [0], []),
  (yX8_isRoute, cX8_isRoute, 1, (some (.boolean)), 8, 0, 1, [0], []),
  (yX8_requireRoute, cX8_requireRoute, 1, none, 8, 1, 1, [0], []),
  (yX8_requireTicks, cX8_requireTicks, 1, none, 8, 0, 1, [0], []),
  (yX8_requirePosition, cX8_requirePosition, 2, none, 8, 1, 0, [0], []),
  (yX8_requireStation, cX8_requireStation, 2, none, 8, 4, 0, [0], []),
  (yX8_requireParcel, cX8_requireParcel, 2, none, 8, 1, 0, [0], []),
  (yX8_requireChute, cX8_requireChute, 3, (some (.object "CrossdockSorter$Chute")), 8, 1, 0, [0], []),
  (yX8_requireTruck, cX8_requireTruck, 2, none, 8, 1, 0, [0], []),
  (yX8_requireSomeLeft, cX8_requireSomeLeft, 1, none, 8, 0, 0, [], []),
  (yX8_passOneTick, cX8_passOneTick, 3, (some (.int)), 8, 5, 0, [], []),
  (yX8_dropInto, cX8_dropInto, 4, (some (.int)), 8, 4, 0, [0], []),
  (yX8_dropIntoOverflow, cX8_dropIntoOverflow, 3, (some (.int)), 8, 4, 0, [], []),
  (yX8_eachParcelIsOnce, cX8_eachParcelIsOnce, 3, (some (.boolean)), 8, 3, 0, [], []),
  (yX8_seeAll, cX8_seeAll, 3, none, 8, 1, 0, [2], []),
  (yX8_see, cX8_see, 2, none, 8, 0, 0, [0], []),
  (yX9_init, cX9_init, 2, none, 9, 0, 2, [], []),
  (yX9_thrown, cX9_thrown, 1, (some (.int)), 9, 0, 0, [], []),
  (yX9_isIn, cX9_isIn, 3, (some (.boolean)), 9, 0, 1, [0, 0, 0], []),
  (yX9_goesOn, cX9_goesOn, 2, (some (.boolean)), 9, 0, 0, [0], []),
  (yX9_isChute, cX9_isChute, 2, (some (.boolean)), 9, 1, 0, [0], []),
  (yX9_isParcel, cX9_isParcel, 2, (some (.boolean)), 9, 1, 0, [0], []),
  (yX9_isPosition, cX9_isPosition, 2, (some (.boolean)), 9, 1, 0, [0], []),
  (yX9_chuteAt, cX9_chuteAt, 3, (some (.int)), 9, 0, 0, [0], []),
  (yX9_setLoop, cX9_setLoop, 3, (some (.int)), 9, 1, 0, [0], []),
  (yX9_addChute, cX9_addChute, 4, (some (.int)), 9, 1, 0, [0, 0], []),
  (yX9_setCapacity, cX9_setCapacity, 5, (some (.int)), 9, 2, 0, [0, 0], []),
  (yX9_setLimit, cX9_setLimit, 3, (some (.int)), 9, 1, 0, [0], []),
  (yX9_isStation, cX9_isStation, 2, (some (.boolean)), 9, 1, 0, [0], []),
  (yX9_isJammedAt, cX9_isJammedAt, 2, (some (.boolean)), 9, 1, 0, [0], []),
  (yX9_sets, cX9_sets, 3, none, 9, 1, 0, [0, 0], []),
  (yX9_jams, cX9_jams, 3, (some (.int)), 9, 0, 0, [], []),
  (yX9_jam, cX9_jam, 2, (some (.int)), 9, 2, 0, [0], []),
  (yX9_free, cX9_free, 2, (some (.int)), 9, 2, 0, [0], []),
  (yX9_stationAt, cX9_stationAt, 2, (some (.char)), 9, 2, 0, [0], []),
  (yX9_moves, cX9_moves, 3, none, 9, 0, 0, [], []),
  (yX9_drops, cX9_drops, 3, (some (.boolean)), 9, 0, 0, [0], []),
  (yX9_overflows, cX9_overflows, 2, (some (.boolean)), 9, 0, 0, [], []),
  (yX9_leaves, cX9_leaves, 3, none, 9, 0, 0, [0, 0], []),
  (yX9_passesOne, cX9_passesOne, 4, (some (.int)), 9, 1, 0, [], []),
  (yX9_pass, cX9_pass, 4, (some (.int)), 9, 2, 0, [0], []),
  (yX9_looksOne, cX9_looksOne, 3, (some (.int)), 9, 1, 0, [], []),
  (yX9_leavingAhead, cX9_leavingAhead, 5, (some (.int)), 9, 2, 0, [0], []),
  (yX9_leavingByTrays, cX9_leavingByTrays, 2, (some (.int)), 9, 3, 0, [0], []),
  (yX9_arrive, cX9_arrive, 4, (some (.int)), 9, 1, 0, [0, 0], [])]
def fw_tab3 : List fw_R := [(yX9_tick, cX9_tick, 1, (some (.long)), 9, 0, 0, [], []),
  (yX9_stateOf, cX9_stateOf, 3, (some (.char)), 9, 2, 0, [0], []),
  (yX9_positionIn, cX9_positionIn, 3, (some (.int)), 9, 0, 0, [0], []),
  (yX9_positionOf, cX9_positionOf, 2, (some (.int)), 9, 2, 0, [0], []),
  (yX9_roundsOf, cX9_roundsOf, 2, (some (.int)), 9, 2, 0, [0], []),
  (yX9_trayAt, cX9_trayAt, 2, (some (.int)), 9, 2, 0, [0], []),
  (yX9_waiting, cX9_waiting, 1, (some (.int)), 9, 0, 0, [], []),
  (yX9_onLoop, cX9_onLoop, 1, (some (.int)), 9, 0, 0, [], []),
  (yX9_overflowed, cX9_overflowed, 1, (some (.int)), 9, 0, 0, [], []),
  (yX9_loadOf, cX9_loadOf, 4, (some (.int)), 9, 0, 0, [0], []),
  (yX9_isSomeFree, cX9_isSomeFree, 3, (some (.boolean)), 9, 0, 0, [], []),
  (yX9_leastChute, cX9_leastChute, 3, (some (.int)), 9, 0, 0, [], []),
  (yX9_greatestRoute, cX9_greatestRoute, 3, (some (.int)), 9, 0, 0, [], []),
  (yX9_startWave, cX9_startWave, 4, (some (.int)), 9, 1, 0, [], []),
  (yX9_isRoute, cX9_isRoute, 1, (some (.boolean)), 9, 1, 1, [0], []),
  (yX9_assign, cX9_assign, 4, (some (.int)), 9, 2, 0, [0, 0], []),
  (yX9_unassign, cX9_unassign, 3, (some (.int)), 9, 2, 0, [0], []),
  (yX9_chuteFor, cX9_chuteFor, 2, (some (.int)), 9, 2, 0, [0], []),
  (yX9_load, cX9_load, 2, (some (.int)), 9, 2, 0, [0], []),
  (yX9_inChute, cX9_inChute, 2, (some (.int)), 9, 2, 0, [0], []),
  (yX9_sealOf, cX9_sealOf, 2, (some (.int)), 9, 0, 0, [0], []),
  (yX9_seal, cX9_seal, 2, (some (.int)), 9, 2, 0, [0], []),
  (yX9_sealByParcels, cX9_sealByParcels, 2, (some (.int)), 9, 3, 0, [0], []),
  (yX9_dispatch, cX9_dispatch, 5, (some (.int)), 9, 2, 0, [0], []),
  (yX9_trucks, cX9_trucks, 1, (some (.int)), 9, 0, 0, [], []),
  (yX9_parcelAt, cX9_parcelAt, 4, (some (.int)), 9, 0, 0, [0, 0], []),
  (yX9_sealOfTruck, cX9_sealOfTruck, 5, (some (.int)), 9, 1, 0, [0], []),
  (yX9_parcelIn, cX9_parcelIn, 4, (some (.int)), 9, 1, 0, [0, 0], []),
  (yX9_truckOf, cX9_truckOf, 2, (some (.int)), 9, 2, 0, [0], []),
  (yX9_shipped, cX9_shipped, 1, (some (.long)), 9, 0, 0, [], []),
  (yX9_meanRounds, cX9_meanRounds, 1, (some (.double)), 9, 1, 0, [], []),
  (yX9_overflowShare, cX9_overflowShare, 1, (some (.float)), 9, 1, 0, [], []),
  (yX9_isOnce, cX9_isOnce, 1, (some (.boolean)), 9, 0, 0, [], []),
  (yL_setLoop, cL_setLoop, 4, (some (.int)), 10, 2, 3, [2, 0, 2], [(0, 9, 12, 13, 0), (0, 9, 15, 15, 1)]),
  (yL_addChute, cL_addChute, 5, (some (.int)), 10, 4, 3, [2, 0, 0, 2], [(0, 10, 13, 13, 0), (0, 10, 17, 21, 2), (0, 10, 21, 15, 1)]),
  (yL_setCapacity, cL_setCapacity, 5, (some (.int)), 10, 3, 3, [2, 0, 0, 2], [(0, 10, 13, 26, 3), (0, 10, 17, 13, 0), (0, 10, 21, 15, 1)]),
  (yL_setLimit, cL_setLimit, 4, (some (.int)), 10, 1, 3, [2, 0, 2], [(0, 9, 12, 13, 0)]),
  (yL_jam, cL_jam, 4, (some (.int)), 10, 6, 3, [2, 0, 2], [(0, 9, 12, 34, 4), (0, 9, 15, 15, 1)]),
  (yL_free, cL_free, 4, (some (.int)), 10, 6, 3, [2, 0, 2], [(0, 9, 12, 34, 4), (0, 9, 15, 15, 1)]),
  (yL_stationAt, cL_stationAt, 4, (some (.int)), 10, 5, 3, [2, 0, 2], [(0, 9, 12, 13, 0)]),
  (yL_arrive, cL_arrive, 5, (some (.int)), 10, 2, 3, [2, 0, 0, 2], [(0, 10, 13, 13, 0), (0, 10, 17, 15, 1)]),
  (yL_pass, cL_pass, 4, (some (.int)), 10, 7, 3, [2, 0, 2], [(0, 9, 12, 13, 0)]),
  (yL_stateOf, cL_stateOf, 4, (some (.int)), 10, 3, 3, [2, 0, 2], [(0, 9, 12, 34, 4)]),
  (yL_positionOf, cL_positionOf, 4, (some (.int)), 10, 5, 3, [2, 0, 2], [(0, 9, 12, 34, 4), (0, 9, 15, 15, 1)]),
  (yL_roundsOf, cL_roundsOf, 4, (some (.int)), 10, 5, 3, [2, 0, 2], [(0, 9, 12, 34, 4), (0, 9, 15, 15, 1)]),
  (yL_trayAt, cL_trayAt, 4, (some (.int)), 10, 4, 3, [2, 0, 2], [(0, 9, 12, 13, 0), (0, 9, 15, 34, 4)]),
  (yL_leavingAhead, cL_leavingAhead, 4, (some (.int)), 10, 7, 3, [2, 0, 2], [(0, 9, 12, 13, 0)]),
  (yL_leavingByTrays, cL_leavingByTrays, 4, (some (.int)), 10, 7, 3, [2, 0, 2], [(0, 9, 12, 13, 0)]),
  (yL_startWave, cL_startWave, 3, (some (.int)), 10, 5, 3, [2, 2], [(0, 8, 11, 15, 1)]),
  (yL_assign, cL_assign, 5, (some (.int)), 10, 3, 3, [2, 0, 0, 2], [(0, 10, 13, 13, 0), (0, 10, 17, 26, 3)])]
def fw_tab4 : List fw_R := [(yL_unassign, cL_unassign, 4, (some (.int)), 10, 3, 3, [2, 0, 2], [(0, 9, 12, 13, 0), (0, 9, 15, 15, 1)]),
  (yL_chuteFor, cL_chuteFor, 4, (some (.int)), 10, 3, 3, [2, 0, 2], [(0, 9, 12, 13, 0), (0, 9, 15, 34, 4)]),
  (yL_load, cL_load, 4, (some (.int)), 10, 3, 3, [2, 0, 2], [(0, 9, 12, 13, 0)]),
  (yL_inChute, cL_inChute, 4, (some (.int)), 10, 3, 3, [2, 0, 2], [(0, 9, 12, 26, 3)]),
  (yL_seal, cL_seal, 4, (some (.int)), 10, 3, 3, [2, 0, 2], [(0, 9, 12, 26, 3)]),
  (yL_sealByParcels, cL_sealByParcels, 4, (some (.int)), 10, 4, 3, [2, 0, 2], [(0, 9, 12, 26, 3)]),
  (yL_dispatch, cL_dispatch, 4, (some (.int)), 10, 3, 3, [2, 0, 2], [(0, 9, 12, 26, 3), (0, 9, 15, 15, 1)]),
  (yL_sealOfTruck, cL_sealOfTruck, 4, (some (.int)), 10, 5, 3, [2, 0, 2], [(0, 9, 12, 26, 3)]),
  (yL_parcelIn, cL_parcelIn, 5, (some (.int)), 10, 4, 3, [2, 0, 0, 2], [(0, 10, 13, 26, 3), (0, 10, 17, 34, 4)]),
  (yL_truckOf, cL_truckOf, 4, (some (.int)), 10, 3, 3, [2, 0, 2], [(0, 9, 12, 34, 4), (0, 9, 15, 15, 1)]),
  (yL_meanRounds, cL_meanRounds, 3, (some (.int)), 10, 2, 3, [2, 2], [(0, 7, 10, 108, 5)]),
  (yL_overflowShare, cL_overflowShare, 3, (some (.int)), 10, 2, 3, [2, 2], [(0, 8, 11, 108, 5)])]
def fw_row (k : Nat) : fw_R := (match k / 50 with
  | 0 => fw_tab0
  | 1 => fw_tab1
  | 2 => fw_tab2
  | 3 => fw_tab3
  | _ => fw_tab4).getD (k % 50) (yL_law, cL_law, 9, none, 10, 0, 4, [], [])
def fw_y (k : Nat) : MethodName := (fw_row k).1
def fw_B (k : Nat) : ByteArray := (fw_row k).2.1
def fw_mL (k : Nat) : Nat := (fw_row k).2.2.1
def fw_rt (k : Nat) : Option FieldType := (fw_row k).2.2.2.1
def fw_oc (k : Nat) : Nat := (fw_row k).2.2.2.2.1
def fw_rk (k : Nat) : Nat := (fw_row k).2.2.2.2.2.1
def fw_ki (k : Nat) : Nat := (fw_row k).2.2.2.2.2.2.1
def fw_pt (k : Nat) : List Nat := (fw_row k).2.2.2.2.2.2.2.1
def fw_hs (k : Nat) : List (Nat × Nat × Nat × Nat × Nat) := (fw_row k).2.2.2.2.2.2.2.2
def fw_t : Nat → List Cond
  | 1 => tables_1_1
  | 2 => tables_1_2
  | 3 => tables_1_3
  | 4 => tables_1_4
  | 5 => tables_1_5
  | _ => tables_1_6
/-- (class, entry, class of the field, its place, and where the tables say so) -/
def fw_frT : List (Nat × Nat × Nat × Nat × Nat × Nat) := [(0, 9, 0, 0, 1, 93), (0, 15, 0, 1, 1, 94), (0, 31, 0, 2, 1, 95), (0, 35, 0, 3, 1, 97), (1, 9, 1, 0, 3, 78), (1, 15, 1, 2, 3, 85), (1, 23, 1, 1, 3, 82), (1, 30, 1, 4, 3, 90), (1, 33, 1, 5, 3, 91), (1, 36, 5, 1, 1, 205), (2, 14, 2, 0, 1, 222), (2, 20, 2, 1, 1, 224), (2, 24, 2, 2, 1, 225), (2, 28, 5, 1, 1, 206), (3, 12, 3, 3, 1, 171), (3, 18, 3, 4, 1, 172), (3, 22, 3, 5, 1, 173), (3, 25, 3, 6, 1, 174), (3, 28, 3, 7, 1, 175), (3, 31, 3, 0, 1, 168), (3, 35, 3, 1, 1, 169), (3, 39, 3, 2, 1, 170), (3, 60, 6, 3, 1, 121), (3, 69, 4, 6, 1, 46), (3, 74, 3, 8, 1, 176), (3, 81, 1, 1, 3, 84), (3, 87, 5, 1, 1, 208), (3, 95, 4, 5, 1, 44), (3, 106, 1, 0, 3, 80), (4, 9, 4, 0, 1, 37), (4, 15, 4, 1, 1, 38), (4, 18, 4, 2, 1, 39), (4, 22, 4, 3, 1, 40), (4, 25, 4, 4, 1, 41), (4, 28, 4, 5, 1, 42), (4, 32, 4, 6, 1, 45), (4, 39, 4, 7, 1, 48), (4, 42, 4, 8, 1, 50), (4, 46, 4, 9, 1, 52), (5, 15, 5, 0, 1, 203), (5, 21, 5, 1, 1, 204), (6, 11, 6, 0, 1, 115), (6, 17, 6, 1, 1, 116), (6, 21, 6, 3, 1, 119), (6, 25, 6, 4, 1, 122), (6, 28, 6, 2, 1, 117), (6, 38, 1, 0, 3, 79), (6, 48, 6, 5, 1, 124), (6, 52, 6, 6, 1, 125), (6, 55, 1, 3, 3, 89), (6, 62, 1, 2, 3, 87), (7, 9, 7, 2, 1, 149), (7, 15, 7, 3, 1, 150), (7, 18, 7, 0, 1, 147), (7, 22, 7, 1, 1, 148), (7, 60, 1, 3, 3, 88), (8, 10, 8, 0, 1, 234), (8, 19, 8, 1, 1, 235), (8, 26, 8, 2, 1, 236), (8, 35, 8, 3, 1, 237), (8, 44, 8, 4, 1, 238), (8, 53, 8, 5, 1, 239), (8, 60, 8, 6, 2, 0), (8, 64, 8, 7, 2, 1), (8, 71, 6, 2, 1, 118), (8, 75, 4, 5, 1, 43), (8, 81, 0, 2, 1, 96), (8, 87, 6, 3, 1, 120), (8, 108, 1, 1, 3, 83), (8, 113, 5, 1, 1, 207), (8, 116, 1, 2, 3, 86), (8, 119, 6, 4, 1, 123), (8, 155, 8, 8, 2, 2), (8, 181, 4, 6, 1, 47), (8, 184, 4, 7, 1, 49), (8, 232, 2, 2, 1, 226), (8, 247, 4, 9, 1, 53), (8, 253, 4, 8, 1, 51), (8, 295, 1, 0, 3, 81), (8, 327, 2, 0, 1, 223), (9, 7, 9, 1, 5, 84), (9, 13, 9, 2, 5, 85), (9, 17, 9, 4, 5, 87), (9, 20, 9, 5, 5, 88), (9, 23, 9, 6, 5, 89), (9, 27, 9, 9, 5, 92), (9, 30, 9, 11, 5, 94), (9, 33, 9, 12, 5, 95), (9, 36, 9, 13, 5, 96), (9, 39, 9, 14, 5, 97), (9, 42, 9, 20, 5, 103), (9, 45, 9, 21, 5, 104), (9, 48, 9, 22, 5, 105), (9, 51, 9, 23, 5, 106), (9, 54, 9, 24, 5, 107), (9, 57, 9, 26, 5, 109), (9, 60, 9, 27, 5, 110), (9, 63, 9, 28, 5, 111), (9, 66, 9, 30, 5, 113), (9, 69, 9, 31, 5, 114), (9, 72, 9, 32, 5, 115), (9, 75, 9, 33, 5, 116), (9, 78, 9, 34, 5, 117), (9, 81, 9, 0, 5, 83), (9, 84, 9, 3, 5, 86), (9, 91, 9, 10, 5, 93), (9, 105, 9, 7, 5, 90), (9, 109, 9, 8, 5, 91), (9, 129, 9, 17, 5, 100), (9, 132, 9, 18, 5, 101), (9, 135, 9, 16, 5, 99), (9, 153, 9, 19, 5, 102), (9, 156, 9, 15, 5, 98), (9, 195, 9, 25, 5, 108), (9, 198, 9, 29, 5, 112)]
/-- (class, entry, callee (1000 Math.max, 1001 Math.min, 1002 Object's constructor), 1 where it is a nest mate's private one, and where the tables say so) -/
def fw_mrT : List (Nat × Nat × Nat × Nat × Nat × Nat) := [(0, 3, 1002, 0, 1, 82), (0, 18, 2, 0, 1, 83), (0, 22, 1001, 0, 1, 87), (0, 28, 1000, 0, 1, 90), (0, 38, 4, 0, 2, 66), (0, 42, 5, 0, 2, 62), (0, 46, 7, 0, 4, 79), (0, 49, 10, 0, 2, 158), (1, 3, 1002, 0, 3, 75), (1, 20, 43, 0, 3, 77), (1, 27, 45, 0, 4, 43), (1, 39, 46, 0, 2, 99), (2, 3, 1002, 0, 1, 219), (2, 11, 43, 0, 1, 221), (2, 29, 44, 0, 4, 218), (2, 33, 45, 0, 4, 219), (2, 36, 18, 0, 5, 11), (2, 40, 20, 0, 5, 7), (2, 43, 21, 0, 5, 12), (2, 46, 46, 0, 5, 16), (3, 3, 1002, 0, 1, 165), (3, 11, 1, 0, 1, 167), (3, 42, 27, 0, 2, 108), (3, 45, 3, 0, 2, 113), (3, 49, 28, 0, 2, 117), (3, 53, 7, 0, 2, 125), (3, 57, 8, 0, 2, 159), (3, 66, 29, 0, 2, 171), (3, 77, 49, 0, 2, 112), (3, 92, 6, 0, 2, 121), (3, 98, 59, 0, 2, 126), (3, 102, 10, 0, 2, 130), (3, 109, 31, 0, 2, 134), (3, 113, 11, 0, 2, 154), (3, 117, 61, 0, 2, 163), (3, 120, 30, 0, 2, 175), (3, 123, 50, 0, 2, 179), (3, 126, 38, 0, 2, 138), (3, 129, 60, 0, 2, 143), (4, 3, 1002, 0, 1, 36), (4, 35, 33, 0, 2, 142), (5, 3, 1002, 0, 1, 201), (5, 9, 1000, 0, 1, 202), (5, 25, 44, 0, 2, 103), (6, 3, 1002, 0, 1, 112), (6, 31, 12, 0, 3, 72), (6, 34, 49, 0, 2, 90), (6, 41, 50, 0, 3, 51), (6, 45, 51, 0, 3, 187), (6, 58, 106, 1, 2, 151), (6, 65, 57, 0, 2, 147), (6, 68, 15, 0, 2, 91), (6, 72, 16, 0, 2, 95), (7, 3, 1002, 0, 1, 146), (7, 26, 42, 0, 4, 127), (7, 32, 58, 0, 4, 131), (7, 38, 66, 0, 4, 135), (7, 42, 67, 0, 4, 139), (7, 45, 65, 0, 4, 145), (7, 49, 106, 1, 4, 149), (7, 56, 49, 0, 4, 144), (8, 1, 1002, 0, 1, 28), (8, 9, 32, 1, 1, 33), (8, 18, 1, 0, 1, 79), (8, 25, 47, 0, 1, 109), (8, 32, 63, 0, 1, 143), (8, 41, 24, 0, 1, 162), (8, 50, 43, 0, 1, 198), (8, 59, 17, 1, 1, 216), (8, 84, 2, 0, 3, 35), (8, 90, 105, 0, 3, 44), (8, 94, 51, 0, 3, 47), (8, 101, 48, 0, 3, 67), (8, 105, 112, 0, 3, 145), (8, 122, 110, 0, 3, 179), (8, 125, 53, 0, 3, 203), (8, 128, 54, 0, 3, 207), (8, 132, 55, 0, 3, 211), (8, 136, 109, 0, 3, 229), (8, 139, 52, 0, 3, 183), (8, 143, 106, 0, 4, 1), (8, 146, 34, 0, 4, 2), (8, 149, 108, 0, 4, 13), (8, 152, 115, 0, 4, 16), (8, 159, 111, 0, 4, 60), (8, 162, 39, 0, 4, 64), (8, 165, 9, 0, 4, 75), (8, 169, 8, 0, 4, 33), (8, 172, 40, 0, 4, 87), (8, 175, 7, 0, 2, 58), (8, 187, 25, 0, 2, 104), (8, 190, 26, 0, 2, 167), (8, 193, 56, 0, 4, 119), (8, 197, 64, 0, 4, 123), (8, 200, 107, 0, 4, 157), (8, 203, 57, 0, 4, 160), (8, 206, 58, 0, 4, 161), (8, 210, 42, 0, 4, 183), (8, 213, 15, 0, 4, 198), (8, 216, 16, 0, 4, 206), (8, 219, 19, 0, 4, 214), (8, 223, 44, 0, 2, 78), (8, 226, 37, 0, 4, 220), (8, 229, 14, 0, 4, 224), (8, 233, 113, 0, 4, 235), (8, 236, 23, 0, 5, 3), (8, 239, 21, 0, 5, 24), (8, 242, 22, 0, 5, 25), (8, 244, 41, 0, 5, 36), (8, 250, 114, 0, 5, 61), (8, 256, 118, 0, 2, 50), (8, 259, 62, 0, 2, 86), (8, 262, 4, 0, 3, 233), (8, 265, 33, 0, 2, 82), (8, 266, 49, 0, 2, 70), (8, 272, 18, 0, 4, 239), (8, 276, 6, 0, 4, 20), (8, 279, 59, 0, 4, 21), (8, 283, 35, 0, 4, 22), (8, 286, 10, 0, 4, 26), (8, 289, 116, 0, 4, 27), (8, 292, 117, 0, 4, 47), (8, 298, 38, 0, 4, 31), (8, 301, 60, 0, 4, 32), (8, 304, 36, 0, 4, 34), (8, 308, 11, 0, 4, 38), (8, 311, 13, 0, 4, 39), (8, 314, 61, 0, 4, 51), (8, 318, 45, 0, 4, 52), (8, 320, 120, 0, 2, 54), (8, 323, 119, 0, 2, 74), (9, 1, 1002, 0, 5, 82), (9, 87, 123, 0, 5, 198), (9, 94, 124, 0, 5, 201), (9, 98, 128, 0, 5, 209), (9, 102, 125, 0, 5, 217), (9, 112, 133, 0, 5, 229), (9, 115, 134, 0, 5, 233), (9, 118, 135, 0, 5, 237), (9, 122, 136, 0, 6, 1), (9, 126, 127, 0, 6, 13), (9, 139, 140, 0, 6, 25), (9, 142, 141, 0, 6, 29), (9, 145, 143, 0, 6, 33), (9, 149, 142, 0, 6, 37), (9, 159, 144, 0, 6, 21), (9, 162, 146, 0, 6, 45), (9, 165, 147, 0, 6, 53), (9, 168, 126, 0, 6, 66), (9, 171, 152, 0, 6, 74), (9, 174, 160, 0, 6, 102), (9, 177, 159, 0, 6, 106), (9, 180, 162, 0, 6, 110), (9, 183, 161, 0, 6, 114), (9, 186, 164, 0, 6, 122), (9, 189, 170, 0, 6, 145), (9, 192, 171, 0, 6, 153), (9, 201, 175, 0, 6, 166), (10, 7, 69, 0, 2, 188), (10, 17, 70, 0, 3, 40), (10, 23, 71, 0, 3, 141), (10, 28, 72, 0, 3, 167), (10, 31, 73, 0, 3, 175), (10, 36, 74, 0, 3, 218), (10, 39, 75, 0, 3, 225), (10, 43, 76, 0, 3, 237), (10, 46, 77, 0, 4, 9), (10, 49, 79, 0, 4, 56), (10, 52, 80, 0, 4, 71), (10, 55, 81, 0, 4, 83), (10, 58, 82, 0, 4, 94), (10, 61, 86, 0, 4, 101), (10, 64, 87, 0, 4, 108), (10, 67, 88, 0, 4, 115), (10, 71, 89, 0, 4, 153), (10, 74, 90, 0, 4, 165), (10, 77, 91, 0, 4, 172), (10, 80, 92, 0, 4, 179), (10, 83, 93, 0, 4, 187), (10, 86, 94, 0, 4, 194), (10, 89, 95, 0, 4, 202), (10, 92, 96, 0, 4, 210), (10, 95, 98, 0, 4, 231), (10, 98, 99, 0, 5, 20), (10, 101, 100, 0, 5, 32), (10, 104, 102, 0, 5, 57), (10, 110, 103, 0, 5, 73), (10, 114, 68, 0, 1, 25), (10, 117, 121, 0, 5, 79), (10, 118, 183, 0, 2, 183), (10, 123, 129, 0, 5, 194), (10, 124, 122, 0, 5, 190), (10, 127, 184, 0, 3, 36), (10, 130, 130, 0, 5, 205), (10, 131, 185, 0, 3, 105), (10, 133, 131, 0, 5, 213), (10, 134, 186, 0, 3, 164), (10, 136, 132, 0, 5, 221), (10, 137, 187, 0, 3, 171), (10, 139, 137, 0, 5, 225), (10, 140, 188, 0, 3, 215), (10, 142, 138, 0, 6, 5), (10, 143, 189, 0, 3, 222), (10, 145, 139, 0, 6, 9), (10, 146, 190, 0, 3, 234), (10, 148, 149, 0, 6, 54), (10, 149, 191, 0, 4, 6), (10, 151, 145, 0, 6, 17), (10, 152, 78, 0, 2, 22), (10, 156, 150, 0, 6, 58), (10, 157, 192, 0, 4, 53), (10, 159, 151, 0, 6, 62), (10, 160, 193, 0, 4, 68), (10, 162, 153, 0, 6, 70), (10, 163, 194, 0, 4, 80), (10, 165, 154, 0, 6, 78), (10, 166, 195, 0, 4, 91), (10, 168, 155, 0, 6, 82), (10, 169, 83, 0, 2, 26), (10, 172, 156, 0, 6, 86), (10, 173, 84, 0, 2, 30), (10, 176, 157, 0, 6, 90), (10, 177, 85, 0, 2, 34), (10, 180, 158, 0, 6, 94), (10, 181, 196, 0, 4, 98), (10, 183, 147, 0, 6, 41), (10, 184, 197, 0, 4, 105), (10, 186, 148, 0, 6, 49), (10, 187, 198, 0, 4, 112), (10, 190, 163, 0, 6, 98), (10, 191, 199, 0, 4, 150), (10, 193, 165, 0, 6, 118), (10, 194, 200, 0, 4, 162), (10, 196, 166, 0, 6, 125), (10, 197, 201, 0, 4, 169), (10, 199, 167, 0, 6, 129), (10, 200, 202, 0, 4, 176), (10, 202, 168, 0, 6, 133), (10, 203, 203, 0, 4, 184), (10, 205, 169, 0, 6, 137), (10, 206, 204, 0, 4, 191), (10, 208, 171, 0, 6, 141), (10, 209, 205, 0, 4, 199), (10, 211, 172, 0, 6, 149), (10, 212, 206, 0, 4, 207), (10, 214, 173, 0, 6, 154), (10, 215, 97, 0, 2, 38), (10, 218, 174, 0, 6, 158), (10, 219, 207, 0, 4, 228), (10, 221, 176, 0, 6, 162), (10, 222, 208, 0, 5, 17), (10, 224, 177, 0, 6, 170), (10, 225, 209, 0, 5, 29), (10, 227, 178, 0, 6, 174), (10, 228, 101, 0, 2, 42), (10, 231, 179, 0, 6, 178), (10, 232, 210, 0, 5, 40), (10, 235, 180, 0, 6, 182), (10, 236, 211, 0, 5, 70), (10, 238, 181, 0, 6, 186), (10, 239, 104, 0, 2, 46), (10, 243, 182, 0, 6, 190)]
def fw_crT : List (Nat × Nat × Nat × Nat × Nat) := [(1, 18, 5, 3, 76), (2, 9, 5, 1, 220), (3, 9, 0, 1, 166), (6, 9, 1, 1, 113), (8, 7, 4, 1, 31), (8, 16, 0, 1, 77), (8, 23, 6, 1, 107), (8, 30, 7, 1, 141), (8, 39, 3, 1, 160), (8, 48, 5, 1, 196), (8, 57, 2, 1, 214), (10, 8, 8, 1, 23), (10, 115, 9, 5, 77)]
/-- (entry of an exception's class in CrossdockSorter, entry of its constructor, its number, and where the tables say so) -/
def fw_xrT : List (Nat × Nat × Nat × Nat × Nat) := [(68, 70, 0, 2, 192), (78, 80, 1, 3, 20), (98, 100, 2, 3, 52), (178, 180, 4, 3, 188), (269, 271, 3, 3, 149), (273, 275, 5, 5, 65)]
def fw_fr (o i : Nat) : Option (Nat × Nat) := (fw_frT.find? (fun q => q.1 == o && q.2.1 == i)).map (fun q => (q.2.2.1, q.2.2.2.1))
def fw_mr (o i : Nat) : Option (Nat × Nat) := (fw_mrT.find? (fun q => q.1 == o && q.2.1 == i)).map (fun q => (q.2.2.1, q.2.2.2.1))
def fw_cal (o i : Nat) : Nat := ((fw_mr o i).map Prod.fst).getD 0
def fw_cr (o i : Nat) : Option Nat := (fw_crT.find? (fun q => q.1 == o && q.2.1 == i)).map (fun q => q.2.2.1)
def fw_xr (i : Nat) : Option (Nat × Nat) := (fw_xrT.find? (fun q => q.1 == i)).map (fun q => (q.2.1, q.2.2.1))
def fw_dec (k pc : Nat) : Option (Instr × Nat) := match decode (fw_B k) pc with
  | .ok r => some r
  | .error _ => none
theorem fw_de {k pc : Nat} {bb : ByteArray} {r : Instr × Nat} (hB : fw_B k = bb) (h : decode bb pc = .ok r) : fw_dec k pc = some r := by
  unfold fw_dec; rw [hB, h]
theorem fw_de' {k pc : Nat} {r : Instr × Nat} (h : fw_dec k pc = some r) : decode (fw_B k) pc = .ok r := by
  unfold fw_dec at h; split at h
  · rename_i x hx; rw [hx]; exact congrArg _ (Option.some.inj h)
  · cases h
/-- the handler of method k for the exception x thrown at pc -/
def fw_hd (k pc x : Nat) : Option Nat := ((fw_hs k).find? (fun h => h.2.2.2.2 == x && (decide (h.1 ≤ pc) && decide (pc < h.2.1)))).map (fun h => h.2.2.1)
def fw_nx (pc : Nat) (ll st : List fw_V) (σ : fw_M) : Option fw_A := some (.inl (pc, ll, st, σ))
def fw_fi (v : fw_V) (σ : fw_M) : Option fw_A := some (.inr (.inl (v, σ)))
def fw_tgt (pc : Nat) (off : Int) : Nat := ((pc : Int) + off).toNat
/-- a store to a local (a double there, or just below, is left to the law) -/
def fw_so (k : Nat) (ll : List fw_V) (i : Nat) : Bool := decide (i < fw_mL k) && (decide (k ≠ 0) || decide (i = 0) || decide ((fw_g ll (i - 1)).1 ≠ 3))
def fw_br (pc : Nat) (off : Int) (c : Prop) [Decidable c] (ll st : List fw_V) (σ : fw_M) : Option fw_A := if c then fw_nx (fw_tgt pc off) ll st σ else fw_nx (pc + 3) ll st σ
def fw_ifc (c : ClassFile.Cond) (x y : Int) : Bool := match c with
  | .eq => decide (x = y)
  | .ne => decide (x ≠ y)
  | .lt => decide (x < y)
  | .ge => decide (y ≤ x)
  | .gt => decide (y < x)
  | .le => decide (x ≤ y)
def fw_ak (t : ArrayType) : Int := match t with
  | .int => 100
  | .char => 101
  | .boolean => 102
  | .long => 103
  | .double => 104
  | _ => 99
def fw_ca (k cal : Nat) (rcv : Bool) (st : List fw_V) : Option fw_A :=
  let n := (fw_pt cal).length
  let as := (st.take n).reverse
  let r0 := st.drop n
  if as.map Prod.fst = fw_pt cal ∧ fw_rk cal < fw_rk k ∧ cal < 212 ∧ cal ≠ 0 then
    if rcv then match r0 with
      | (2, r) :: rest => if fw_kd r = (fw_oc cal : Int) + 3 ∧ rest.length ≤ 4 then some (.inr (.inr (cal, (2, r) :: as, rest))) else none
      | _ => none
    else if r0.length ≤ 4 then some (.inr (.inr (cal, as, r0))) else none
  else none
/-- an answer that fits what the method says it answers -/
def fw_ri (k : Nat) (x : Int) : Bool := match fw_rt k with
  | some .int => true
  | some .boolean => decide (x = 0 ∨ x = 1)
  | some .char => decide (0 ≤ x ∧ x < 65536)
  | _ => false
def fw_dd (x : Int) : UInt64 := UInt64.ofNat x.toNat
def fw_ff (x : Int) : UInt32 := UInt32.ofNat x.toNat
def fw_n64 (r : UInt64) : Bool := decide (r &&& 0x7fffffffffffffff ≤ 0x7ff0000000000000)
def fw_n32 (r : UInt32) : Bool := decide (r &&& 0x7fffffff ≤ 0x7f800000)
def fw_si (k pc : Nat) (ll st : List fw_V) (σ : fw_M) (i : Instr) : Option fw_A := match i with
  | .iconst n => fw_nx (pc + 1) ll ((0, (Int32.ofInt n).toInt) :: st) σ
  | .bipush n => fw_nx (pc + 2) ll ((0, (Int8.ofInt n).toInt32.toInt) :: st) σ
  | .sipush n => fw_nx (pc + 3) ll ((0, (Int16.ofInt n).toInt32.toInt) :: st) σ
  | .lconst n => fw_nx (pc + 1) ll ((1, (Int64.ofNat (n : Nat)).toInt) :: st) σ
  | .fconst n => if n = 0 then fw_nx (pc + 1) ll ((4, (FP.fconst0.toNat : Int)) :: st) σ else none
  | .dconst n => if n = 0 then fw_nx (pc + 1) ll ((3, (FP.dconst0.toNat : Int)) :: st) σ else none
  | .aconst_null => fw_nx (pc + 1) ll ((2, 0) :: st) σ
  | .ldc n => if fw_oc k = 7 ∧ n = 55 then fw_nx (pc + 2) ll ((0, 2147483647) :: st) σ else none
  | .iload_n n => if (fw_g ll n).1 = 0 then fw_nx (pc + 1) ll (fw_g ll n :: st) σ else none
  | .iload n => if (fw_g ll n).1 = 0 then fw_nx (pc + 2) ll (fw_g ll n :: st) σ else none
  | .aload_n n => if (fw_g ll n).1 = 2 ∨ (fw_g ll n).1 = 6 then fw_nx (pc + 1) ll (fw_g ll n :: st) σ else none
  | .aload n => if (fw_g ll n).1 = 2 ∨ (fw_g ll n).1 = 6 then fw_nx (pc + 2) ll (fw_g ll n :: st) σ else none
  | .dload n => if (fw_g ll n).1 = 3 then fw_nx (pc + 2) ll (fw_g ll n :: st) σ else none
  | .fload n => if (fw_g ll n).1 = 4 then fw_nx (pc + 2) ll (fw_g ll n :: st) σ else none
  | .istore_n n => match st with
    | (0, x) :: r => if fw_so k ll n then fw_nx (pc + 1) (ll.set n (0, x)) r σ else none
    | _ => none
  | .istore n => match st with
    | (0, x) :: r => if fw_so k ll n then fw_nx (pc + 2) (ll.set n (0, x)) r σ else none
    | _ => none
  | .astore_n n => match st with
    | (2, x) :: r => if fw_so k ll n then fw_nx (pc + 1) (ll.set n (2, x)) r σ else none
    | (7, x) :: r => if fw_so k ll n then fw_nx (pc + 1) (ll.set n (7, x)) r σ else none
    | _ => none
  | .astore n => match st with
    | (2, x) :: r => if fw_so k ll n then fw_nx (pc + 2) (ll.set n (2, x)) r σ else none
    | (7, x) :: r => if fw_so k ll n then fw_nx (pc + 2) (ll.set n (7, x)) r σ else none
    | _ => none
  | .fstore n => match st with
    | (4, x) :: r => if fw_so k ll n then fw_nx (pc + 2) (ll.set n (4, x)) r σ else none
    | _ => none
  | .dstore n => match st with
    | (3, x) :: r => if fw_so k ll n ∧ k = 0 ∧ n + 1 < fw_mL k then fw_nx (pc + 2) ((ll.set n (3, x)).set (n + 1) (8, 0)) r σ else none
    | _ => none
  | .iinc n c => if (fw_g ll n).1 = 0 ∧ fw_so k ll n then fw_nx (pc + 3) (ll.set n (0, fw_w ((fw_g ll n).2 + c))) st σ else none
  | .iadd => match st with
    | (0, y) :: (0, x) :: r => fw_nx (pc + 1) ll ((0, fw_w (x + y)) :: r) σ
    | _ => none
  | .isub => match st with
    | (0, y) :: (0, x) :: r => fw_nx (pc + 1) ll ((0, fw_w (x - y)) :: r) σ
    | _ => none
  | .imul => match st with
    | (0, y) :: (0, x) :: r => fw_nx (pc + 1) ll ((0, fw_w (x * y)) :: r) σ
    | _ => none
  | .irem => match st with
    | (0, y) :: (0, x) :: r => if 0 ≤ x ∧ 0 < y then fw_nx (pc + 1) ll ((0, x % y) :: r) σ else none
    | _ => none
  | .iand => match st with
    | (0, y) :: (0, x) :: r => if y = 63 then fw_nx (pc + 1) ll ((0, x % 64) :: r) σ else none
    | _ => none
  | .ladd => match st with
    | (1, y) :: (1, x) :: r => fw_nx (pc + 1) ll ((1, fw_wl (x + y)) :: r) σ
    | _ => none
  | .lcmp => match st with
    | (1, y) :: (1, x) :: r => fw_nx (pc + 1) ll ((0, if y < x then 1 else if x = y then 0 else -1) :: r) σ
    | _ => none
  | .i2l => match st with
    | (0, x) :: r => fw_nx (pc + 1) ll ((1, x) :: r) σ
    | _ => none
  | .i2d => match st with
    | (0, x) :: r => fw_nx (pc + 1) ll ((3, ((FP.i2d (Int32.ofInt x)).toNat : Int)) :: r) σ
    | _ => none
  | .i2f => match st with
    | (0, x) :: r => fw_nx (pc + 1) ll ((4, ((FP.i2f (Int32.ofInt x)).toNat : Int)) :: r) σ
    | _ => none
  | .l2d => match st with
    | (1, x) :: r => fw_nx (pc + 1) ll ((3, ((FP.l2d (Int64.ofInt x)).toNat : Int)) :: r) σ
    | _ => none
  | .f2d => match st with
    | (4, x) :: r => if fw_n64 (FP.f2d (fw_ff x)) then fw_nx (pc + 1) ll ((3, ((FP.f2d (fw_ff x)).toNat : Int)) :: r) σ else none
    | _ => none
  | .ddiv => match st with
    | (3, y) :: (3, x) :: r => if fw_n64 (FP.ddiv (fw_dd x) (fw_dd y)) then fw_nx (pc + 1) ll ((3, ((FP.ddiv (fw_dd x) (fw_dd y)).toNat : Int)) :: r) σ else none
    | _ => none
  | .fdiv => match st with
    | (4, y) :: (4, x) :: r => if fw_n32 (FP.fdiv (fw_ff x) (fw_ff y)) then fw_nx (pc + 1) ll ((4, ((FP.fdiv (fw_ff x) (fw_ff y)).toNat : Int)) :: r) σ else none
    | _ => none
  | .dcmp op => match st with
    | (3, y) :: (3, x) :: r => fw_nx (pc + 1) ll ((0, (Op.cmpValue (FP.dcmp (fw_dd x) (fw_dd y)) op).toInt) :: r) σ
    | _ => none
  | .fcmp op => match st with
    | (4, y) :: (4, x) :: r => fw_nx (pc + 1) ll ((0, (Op.cmpValue (FP.fcmp (fw_ff x) (fw_ff y)) op).toInt) :: r) σ
    | _ => none
  | .dup => match st with
    | (t, x) :: r => if t = 0 ∨ t = 2 then fw_nx (pc + 1) ll ((t, x) :: (t, x) :: r) σ else none
    | _ => none
  | .dup2 => match st with
    | (0, x) :: (2, y) :: r => fw_nx (pc + 1) ll ((0, x) :: (2, y) :: (0, x) :: (2, y) :: r) σ
    | _ => none
  | .pop => match st with
    | (t, _) :: r => if t = 0 ∨ t = 2 then fw_nx (pc + 1) ll r σ else none
    | _ => none
  | .goto off => if 0 ≤ (pc : Int) + off then fw_nx (fw_tgt pc off) ll st σ else none
  | .ifCond c off => match st with
    | (0, x) :: r => if 0 ≤ (pc : Int) + off then fw_br pc off (fw_ifc c x 0 = true) ll r σ else none
    | _ => none
  | .if_icmp c off => match st with
    | (0, y) :: (0, x) :: r => if 0 ≤ (pc : Int) + off then fw_br pc off (fw_ifc c x y = true) ll r σ else none
    | _ => none
  | .ifnull off => match st with
    | (2, x) :: r => if 0 ≤ (pc : Int) + off then fw_br pc off (x = 0) ll r σ else none
    | _ => none
  | .ifnonnull off => match st with
    | (2, x) :: r => if 0 ≤ (pc : Int) + off then fw_br pc off (x ≠ 0) ll r σ else none
    | _ => none
  | .tableswitch d lo hi offs => match st with
    | (0, x) :: r => if x < lo ∨ hi < x then (if 0 ≤ (pc : Int) + d then fw_nx (fw_tgt pc d) ll r σ else none) else match offs[(x - lo).toNat]? with
      | some off => if 0 ≤ (pc : Int) + off then fw_nx (fw_tgt pc off) ll r σ else none
      | none => none
    | _ => none
  | .iaload => match st with
    | (0, i) :: (2, a) :: r => if fw_kd a = 100 ∧ 0 ≤ i ∧ i < fw_ln a then fw_nx (pc + 1) ll ((0, σ a i) :: r) σ else none
    | (0, i) :: (6, _) :: r => if k = 0 ∧ 0 ≤ i ∧ i < σ (-3) 0 then fw_nx (pc + 1) ll ((0, σ (-2) i) :: r) σ else none
    | _ => none
  | .caload => match st with
    | (0, i) :: (2, a) :: r => if fw_kd a = 101 ∧ 0 ≤ i ∧ i < fw_ln a then fw_nx (pc + 1) ll ((0, σ a i) :: r) σ else none
    | _ => none
  | .baload => match st with
    | (0, i) :: (2, a) :: r => if fw_kd a = 102 ∧ 0 ≤ i ∧ i < fw_ln a then fw_nx (pc + 1) ll ((0, σ a i) :: r) σ else none
    | _ => none
  | .laload => match st with
    | (0, i) :: (2, a) :: r => if fw_kd a = 103 ∧ 0 ≤ i ∧ i < fw_ln a then fw_nx (pc + 1) ll ((1, σ a i) :: r) σ else none
    | _ => none
  | .daload => match st with
    | (0, i) :: (2, a) :: r => if fw_kd a = 104 ∧ 0 ≤ i ∧ i < fw_ln a then fw_nx (pc + 1) ll ((3, σ a i) :: r) σ else none
    | _ => none
  | .aaload => match st with
    | (0, i) :: (2, a) :: r => if fw_kd a = 105 ∧ 0 ≤ i ∧ i < fw_ln a then fw_nx (pc + 1) ll ((2, σ a i) :: r) σ else none
    | _ => none
  | .iastore => match st with
    | (0, v) :: (0, i) :: (2, a) :: r => if fw_kd a = 100 ∧ 0 ≤ i ∧ i < fw_ln a then fw_nx (pc + 1) ll r (fw_u σ a i v) else none
    | _ => none
  | .castore => match st with
    | (0, v) :: (0, i) :: (2, a) :: r => if fw_kd a = 101 ∧ 0 ≤ i ∧ i < fw_ln a ∧ 0 ≤ v ∧ v < 65536 then fw_nx (pc + 1) ll r (fw_u σ a i v) else none
    | _ => none
  | .bastore => match st with
    | (0, v) :: (0, i) :: (2, a) :: r => if fw_kd a = 102 ∧ 0 ≤ i ∧ i < fw_ln a ∧ (v = 0 ∨ v = 1) then fw_nx (pc + 1) ll r (fw_u σ a i v) else none
    | _ => none
  | .lastore => match st with
    | (1, v) :: (0, i) :: (2, a) :: r => if fw_kd a = 103 ∧ 0 ≤ i ∧ i < fw_ln a then fw_nx (pc + 1) ll r (fw_u σ a i v) else none
    | _ => none
  | .dastore => match st with
    | (3, v) :: (0, i) :: (2, a) :: r => if fw_kd a = 104 ∧ 0 ≤ i ∧ i < fw_ln a then fw_nx (pc + 1) ll r (fw_u σ a i v) else none
    | _ => none
  | .aastore => match st with
    | (2, v) :: (0, i) :: (2, a) :: r => if fw_kd a = 105 ∧ fw_kd v = 4 ∧ 0 ≤ i ∧ i < fw_ln a then fw_nx (pc + 1) ll r (fw_u σ a i v) else none
    | _ => none
  | .arraylength => match st with
    | (2, a) :: r => if 100 ≤ fw_kd a then fw_nx (pc + 1) ll ((0, fw_ln a) :: r) σ else none
    | (6, _) :: r => if k = 0 ∧ σ (-3) 0 < 2147483648 then fw_nx (pc + 1) ll ((0, σ (-3) 0) :: r) σ else none
    | _ => none
  | .getfield n => match st with
    | (2, a) :: r => match fw_fr (fw_oc k) n with
      | some (c, j) => if fw_kd a = (c : Int) + 3 then fw_nx (pc + 3) ll ((fw_tg (fw_fk c j), σ a (j : Int)) :: r) σ else none
      | none => none
    | _ => none
  | .putfield n => match st with
    | (t, v) :: (2, a) :: r => match fw_fr (fw_oc k) n with
      | some (c, j) => if fw_kd a = (c : Int) + 3 ∧ t = fw_tg (fw_fk c j) ∧ (fw_fk c j = 10 → v = 0 ∨ v = 1) ∧ ((fw_CT c j).2.2.2 = true → fw_ki k = 2 ∧ fw_oc k = c) then fw_nx (pc + 3) ll r (fw_u σ a (j : Int) v) else none
      | none => none
    | _ => none
  | .new n => match fw_cr (fw_oc k) n with
    | some c => if fw_kd (σ (-1) 0) = (c : Int) + 3 then fw_nx (pc + 3) ll ((2, σ (-1) 0) :: st) (fw_nw σ (fw_nf c)) else none
    | none => match fw_xr n with
      | some (ic, x) => if fw_oc k = 8 ∧ fw_hs k = [] ∧ st = [] ∧ fw_dec k (pc + 3) = some (.dup, 1) ∧ fw_dec k (pc + 4) = some (.invokespecial ic, 3) ∧ fw_dec k (pc + 7) = some (.athrow, 1) then fw_fi (9, (x : Int)) (fw_ex σ) else none
      | none => none
  | .newarray t => match st with
    | (0, n) :: r => if 0 ≤ n ∧ n ≤ 300 ∧ fw_kd (σ (-1) 0) = fw_ak t ∧ fw_ln (σ (-1) 0) = n then fw_nx (pc + 2) ll ((2, σ (-1) 0) :: r) (fw_nw σ n) else none
    | _ => none
  | .anewarray m => match st with
    | (0, n) :: r => if fw_oc k = 6 ∧ m = 9 ∧ 0 ≤ n ∧ n ≤ 300 ∧ fw_kd (σ (-1) 0) = 105 ∧ fw_ln (σ (-1) 0) = n then fw_nx (pc + 3) ll ((2, σ (-1) 0) :: r) (fw_nw σ n) else none
    | _ => none
  | .invokevirtual n => match fw_mr (fw_oc k) n with
    | some (cal, 0) => if fw_ki cal = 0 then fw_ca k cal true st else none
    | _ => none
  | .invokespecial n => match fw_mr (fw_oc k) n with
    | some (1002, 0) => match st with
      | (2, x) :: r => if x ≠ 0 ∧ r.length ≤ 4 then fw_nx (pc + 3) ll r σ else none
      | _ => none
    | some (cal, _) => if fw_ki cal = 2 then fw_ca k cal true st else none
    | none => none
  | .invokestatic n => match fw_mr (fw_oc k) n with
    | some (1000, 0) => match st with
      | (0, y) :: (0, x) :: r => if r.length ≤ 4 then fw_nx (pc + 3) ll ((0, if x < y then y else x) :: r) σ else none
      | _ => none
    | some (1001, 0) => match st with
      | (0, y) :: (0, x) :: r => if r.length ≤ 4 then fw_nx (pc + 3) ll ((0, if y < x then y else x) :: r) σ else none
      | _ => none
    | some (cal, _) => if fw_ki cal = 1 ∨ fw_ki cal = 3 then fw_ca k cal false st else none
    | none => none
  | .ireturn => match st with
    | [(0, x)] => if fw_ri k x then fw_fi (0, x) σ else none
    | _ => none
  | .lreturn => match st with
    | [(1, x)] => if fw_rt k = some .long then fw_fi (1, x) σ else none
    | _ => none
  | .dreturn => match st with
    | [(3, x)] => if fw_rt k = some .double then fw_fi (3, x) σ else none
    | _ => none
  | .freturn => match st with
    | [(4, x)] => if fw_rt k = some .float then fw_fi (4, x) σ else none
    | _ => none
  | .areturn => match st with
    | [(2, x)] => if fw_rt k = some (.object RX1) then fw_fi (2, x) σ else none
    | _ => none
  | .return_ => if fw_rt k = none ∧ st = [] then fw_fi (5, 0) σ else none
  | _ => none
/-- how long an instruction is -/
def fw_il (i : Instr) (n : Nat) : Bool := match i with
  | .bipush _ | .ldc _ | .iload _ | .aload _ | .dload _ | .fload _ | .istore _ | .astore _ | .fstore _ | .dstore _ | .newarray _ => n == 2
  | .sipush _ | .iinc _ _ | .goto _ | .ifCond _ _ | .if_icmp _ _ | .ifnull _ | .ifnonnull _ | .getfield _ | .putfield _ | .new _ | .anewarray _ | .invokevirtual _ | .invokespecial _ | .invokestatic _ => n == 3
  | .tableswitch _ _ _ _ => true
  | _ => n == 1
def fw_s1 (k pc : Nat) (ll st : List fw_V) (σ : fw_M) : Option fw_A := match fw_dec k pc with
  | some (i, n) => if fw_il i n then fw_si k pc ll st σ i else none
  | none => none
/-- behind a call -/
def fw_af (k pc : Nat) (ll rest : List fw_V) (o : fw_O) : Option ((Nat × List fw_V × List fw_V × fw_M) ⊕ fw_O) :=
  if o.1.1 = 9 then match fw_hd k pc o.1.2.toNat with
    | some h => some (.inl (h, ll, [(7, 0)], o.2))
    | none => if k ≠ 0 ∧ fw_hs k = [] then some (.inr o) else none
  else if o.1.1 = 5 then some (.inl (pc + 3, ll, rest, o.2)) else some (.inl (pc + 3, ll, o.1 :: rest, o.2))
def fw_en (k : Nat) (as : List fw_V) : List fw_V := as ++ List.replicate (fw_mL k - as.length) (8, 0)
/-- n steps at most -/
def fw_ev : Nat → Nat → Nat → List fw_V → List fw_V → fw_M → Option fw_O
  | 0, _, _, _, _, _ => none
  | n + 1, k, pc, ll, st, σ => match fw_s1 k pc ll st σ with
    | none => none
    | some (.inl (pc', ll', st', σ')) => fw_ev n k pc' ll' st' σ'
    | some (.inr (.inl o)) => some o
    | some (.inr (.inr (c, as, rest))) => match fw_ev n c 0 (fw_en c as) [] σ with
      | none => none
      | some o => match fw_af k pc ll rest o with
        | none => none
        | some (.inl (pc', ll', st', σ')) => fw_ev n k pc' ll' st' σ'
        | some (.inr o') => some o'
