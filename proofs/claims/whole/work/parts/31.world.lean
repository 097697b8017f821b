theorem g_J6_bitCount_0f7a4 : pgG m_J6_bitCount_0f7a4 = some (pcJ6_bitCount_0f7a4, 1, [], 0) := rfl
theorem g_J7_fill_53178 : pgG m_J7_fill_53178 = some (pcJ7_fill_53178, 4, [], 0) := rfl
theorem g_X0_init : pgG m_X0_init = some (pcX0_init, 1, [], 0) := rfl
theorem g_X0_addNet : pgG m_X0_addNet = some (pcX0_addNet, 1, [], 0) := rfl
theorem g_X0_addPin : pgG m_X0_addPin = some (pcX0_addPin, 2, [], 0) := rfl
theorem g_X0_accessPlace : pgG m_X0_accessPlace = some (pcX0_accessPlace, 3, [], 0) := rfl
theorem g_X0_hasAccess : pgG m_X0_hasAccess = some (pcX0_hasAccess, 4, [], 0) := rfl
theorem g_X0_addAccess : pgG m_X0_addAccess = some (pcX0_addAccess, 3, [], 0) := rfl
theorem g_X1_init : pgG m_X1_init = some (pcX1_init, 2, [], 1) := rfl
theorem g_X1_clear : pgG m_X1_clear = some (pcX1_clear, 1, [], 1) := rfl
theorem g_X1_offer : pgG m_X1_offer = some (pcX1_offer, 4, [], 1) := rfl
theorem g_X1_take : pgG m_X1_take = some (pcX1_take, 2, [], 1) := rfl
theorem g_X1_sink : pgG m_X1_sink = some (pcX1_sink, 4, [], 1) := rfl
theorem g_X1_isBefore : pgG m_X1_isBefore = some (pcX1_isBefore, 3, [], 1) := rfl
theorem g_X1_put : pgG m_X1_put = some (pcX1_put, 3, [], 1) := rfl
theorem g_X2_init : pgG m_X2_init = some (pcX2_init, 4, [], 2) := rfl
theorem g_X2_numberPlaces : pgG m_X2_numberPlaces = some (pcX2_numberPlaces, 5, [], 2) := rfl
theorem g_X2_placeAt : pgG m_X2_placeAt = some (pcX2_placeAt, 4, [], 2) := rfl
theorem g_X2_close : pgG m_X2_close = some (pcX2_close, 2, [], 2) := rfl
theorem g_X2_beside : pgG m_X2_beside = some (pcX2_beside, 3, [], 2) := rfl
theorem g_X2_stepCost : pgG m_X2_stepCost = some (pcX2_stepCost, 6, [], 2) := rfl
theorem g_X3_init : pgG m_X3_init = some (pcX3_init, 3, [], 3) := rfl
theorem g_X3_begin : pgG m_X3_begin = some (pcX3_begin, 2, [], 3) := rfl
theorem g_X3_choosePlaces : pgG m_X3_choosePlaces = some (pcX3_choosePlaces, 3, [], 3) := rfl
theorem g_X3_firstFit : pgG m_X3_firstFit = some (pcX3_firstFit, 5, [], 3) := rfl
theorem g_X3_makeRounds : pgG m_X3_makeRounds = some (pcX3_makeRounds, 4, [], 3) := rfl
theorem g_X3_waits : pgG m_X3_waits = some (pcX3_waits, 2, [], 3) := rfl
theorem g_X3_someWait : pgG m_X3_someWait = some (pcX3_someWait, 1, [], 3) := rfl
theorem g_X3_route : pgG m_X3_route = some (pcX3_route, 6, [], 3) := rfl
theorem g_X3_countWay : pgG m_X3_countWay = some (pcX3_countWay, 2, [], 3) := rfl
theorem g_X3_placeOutside : pgG m_X3_placeOutside = some (pcX3_placeOutside, 4, [], 3) := rfl
theorem g_X3_findEnd : pgG m_X3_findEnd = some (pcX3_findEnd, 5, [], 3) := rfl
theorem g_X3_isGoal : pgG m_X3_isGoal = some (pcX3_isGoal, 3, [], 3) := rfl
theorem g_X3_offerAround : pgG m_X3_offerAround = some (pcX3_offerAround, 8, [], 3) := rfl
theorem g_X3_entryCost : pgG m_X3_entryCost = some (pcX3_entryCost, 4, [], 3) := rfl
theorem g_X3_traceBack : pgG m_X3_traceBack = some (pcX3_traceBack, 5, [], 3) := rfl
theorem g_X3_placeBefore : pgG m_X3_placeBefore = some (pcX3_placeBefore, 7, [], 3) := rfl
theorem g_X3_tearUp : pgG m_X3_tearUp = some (pcX3_tearUp, 5, [], 3) := rfl
theorem g_X3_dropRoute : pgG m_X3_dropRoute = some (pcX3_dropRoute, 3, [], 3) := rfl
theorem g_X3_layWay : pgG m_X3_layWay = some (pcX3_layWay, 3, [], 3) := rfl
theorem g_X3_standingAt : pgG m_X3_standingAt = some (pcX3_standingAt, 5, [], 3) := rfl
theorem g_X3_clashingPlace : pgG m_X3_clashingPlace = some (pcX3_clashingPlace, 4, [], 3) := rfl
theorem g_X3_hasClash : pgG m_X3_hasClash = some (pcX3_hasClash, 4, [], 3) := rfl
theorem g_X3_openNet : pgG m_X3_openNet = some (pcX3_openNet, 4, [], 3) := rfl
theorem g_X3_whyOpen : pgG m_X3_whyOpen = some (pcX3_whyOpen, 2, [], 3) := rfl
theorem g_X4_init : pgG m_X4_init = some (pcX4_init, 2, [], 4) := rfl
theorem g_X4_clear : pgG m_X4_clear = some (pcX4_clear, 1, [], 4) := rfl
theorem g_X4_add : pgG m_X4_add = some (pcX4_add, 4, [], 4) := rfl
theorem g_X4_mark : pgG m_X4_mark = some (pcX4_mark, 12, [], 4) := rfl
theorem g_X4_drop : pgG m_X4_drop = some (pcX4_drop, 4, [], 4) := rfl
theorem g_X4_clashing : pgG m_X4_clashing = some (pcX4_clashing, 6, [], 4) := rfl
theorem g_X5_init : pgG m_X5_init = some (pcX5_init, 9, [], 5) := rfl
theorem g_X5_rule : pgG m_X5_rule = some (pcX5_rule, 10, [], 5) := rfl
theorem g_X5_net : pgG m_X5_net = some (pcX5_net, 1, [], 5) := rfl
theorem g_X5_pin : pgG m_X5_pin = some (pcX5_pin, 2, [], 5) := rfl
theorem g_X5_access : pgG m_X5_access = some (pcX5_access, 8, [], 5) := rfl
theorem g_X5_bar : pgG m_X5_bar = some (pcX5_bar, 13, [], 5) := rfl
theorem g_X5_shield : pgG m_X5_shield = some (pcX5_shield, 2, [], 5) := rfl
theorem g_X5_run : pgG m_X5_run = some (pcX5_run, 2, [], 5) := rfl
theorem g_X5_piece : pgG m_X5_piece = some (pcX5_piece, 5, [], 5) := rfl
theorem g_X5_chosen : pgG m_X5_chosen = some (pcX5_chosen, 2, [], 5) := rfl
theorem g_X5_open : pgG m_X5_open = some (pcX5_open, 4, [], 5) := rfl
theorem g_X5_joined : pgG m_X5_joined = some (pcX5_joined, 2, [], 5) := rfl
theorem g_X5_broken : pgG m_X5_broken = some (pcX5_broken, 2, [], 5) := rfl
theorem g_X5_history : pgG m_X5_history = some (pcX5_history, 6, [], 5) := rfl
theorem g_X5_count : pgG m_X5_count = some (pcX5_count, 2, [], 5) := rfl
theorem g_X5_rulesOf : pgG m_X5_rulesOf = some (pcX5_rulesOf, 2, [], 5) := rfl
theorem g_X5_needLayer : pgG m_X5_needLayer = some (pcX5_needLayer, 2, [], 5) := rfl
theorem g_X5_needPlace : pgG m_X5_needPlace = some (pcX5_needPlace, 6, [], 5) := rfl
theorem g_X5_needNet : pgG m_X5_needNet = some (pcX5_needNet, 2, [], 5) := rfl
theorem g_X5_needPin : pgG m_X5_needPin = some (pcX5_needPin, 2, [], 5) := rfl
theorem g_X5_needWhat : pgG m_X5_needWhat = some (pcX5_needWhat, 3, [], 5) := rfl
theorem g_X5_needNotBelowZero : pgG m_X5_needNotBelowZero = some (pcX5_needNotBelowZero, 2, [], 5) := rfl
theorem g_X5_needRun : pgG m_X5_needRun = some (pcX5_needRun, 1, [], 5) := rfl
theorem g_X5_isIn : pgG m_X5_isIn = some (pcX5_isIn, 2, [], 5) := rfl
theorem g_X6_init : pgG m_X6_init = some (pcX6_init, 6, [], 6) := rfl
theorem g_X6_thrown : pgG m_X6_thrown = some (pcX6_thrown, 1, [], 6) := rfl
theorem g_X6_clip : pgG m_X6_clip = some (pcX6_clip, 3, [], 6) := rfl
theorem g_X6_isIn : pgG m_X6_isIn = some (pcX6_isIn, 6, [], 6) := rfl
theorem g_X6_refuses : pgG m_X6_refuses = some (pcX6_refuses, 2, [], 6) := rfl
theorem g_X6_all : pgG m_X6_all = some (pcX6_all, 1, [], 6) := rfl
theorem g_X6_placeOf : pgG m_X6_placeOf = some (pcX6_placeOf, 7, [], 6) := rfl
theorem g_X6_layerOf : pgG m_X6_layerOf = some (pcX6_layerOf, 2, [], 6) := rfl
theorem g_X6_xOf : pgG m_X6_xOf = some (pcX6_xOf, 2, [], 6) := rfl
theorem g_X6_yOf : pgG m_X6_yOf = some (pcX6_yOf, 2, [], 6) := rfl
theorem g_X6_rule : pgG m_X6_rule = some (pcX6_rule, 7, [], 6) := rfl
theorem g_X6_net : pgG m_X6_net = some (pcX6_net, 1, [], 6) := rfl
theorem g_X6_isNet : pgG m_X6_isNet = some (pcX6_isNet, 2, [], 6) := rfl
theorem g_X6_isPin : pgG m_X6_isPin = some (pcX6_isPin, 2, [], 6) := rfl
theorem g_X6_pin : pgG m_X6_pin = some (pcX6_pin, 2, [], 6) := rfl
theorem g_X6_access : pgG m_X6_access = some (pcX6_access, 9, [], 6) := rfl
theorem g_X6_bar : pgG m_X6_bar = some (pcX6_bar, 14, [], 6) := rfl
theorem g_X6_shield : pgG m_X6_shield = some (pcX6_shield, 2, [], 6) := rfl
theorem g_X6_apart : pgG m_X6_apart = some (pcX6_apart, 2, [], 6) := rfl
theorem g_X6_clashes : pgG m_X6_clashes = some (pcX6_clashes, 6, [], 6) := rfl
theorem g_X6_placeOfPin : pgG m_X6_placeOfPin = some (pcX6_placeOfPin, 2, [], 6) := rfl
theorem g_X6_mayBe : pgG m_X6_mayBe = some (pcX6_mayBe, 6, [], 6) := rfl
theorem g_X6_pick : pgG m_X6_pick = some (pcX6_pick, 3, [], 6) := rfl
theorem g_X6_mark : pgG m_X6_mark = some (pcX6_mark, 9, [], 6) := rfl
theorem g_X6_markAll : pgG m_X6_markAll = some (pcX6_markAll, 4, [], 6) := rfl
theorem g_X6_beside : pgG m_X6_beside = some (pcX6_beside, 6, [], 6) := rfl
theorem g_X6_stepCost : pgG m_X6_stepCost = some (pcX6_stepCost, 5, [], 6) := rfl
theorem g_X6_isOpen : pgG m_X6_isOpen = some (pcX6_isOpen, 3, [], 6) := rfl
theorem g_X6_extra : pgG m_X6_extra = some (pcX6_extra, 2, [], 6) := rfl
theorem g_X6_lower : pgG m_X6_lower = some (pcX6_lower, 6, [], 6) := rfl
theorem g_X6_goal : pgG m_X6_goal = some (pcX6_goal, 6, [], 6) := rfl
theorem g_X6_isDone : pgG m_X6_isDone = some (pcX6_isDone, 4, [], 6) := rfl
theorem g_X6_backFrom : pgG m_X6_backFrom = some (pcX6_backFrom, 6, [], 6) := rfl
theorem g_X6_tearAt : pgG m_X6_tearAt = some (pcX6_tearAt, 5, [], 6) := rfl
theorem g_X6_take : pgG m_X6_take = some (pcX6_take, 6, [], 6) := rfl
theorem g_X6_dropRoute : pgG m_X6_dropRoute = some (pcX6_dropRoute, 3, [], 6) := rfl
theorem g_X6_routeNet : pgG m_X6_routeNet = some (pcX6_routeNet, 4, [], 6) := rfl
theorem g_X6_run : pgG m_X6_run = some (pcX6_run, 5, [], 6) := rfl
theorem g_X6_isLeft : pgG m_X6_isLeft = some (pcX6_isLeft, 3, [], 6) := rfl
theorem g_X6_stands : pgG m_X6_stands = some (pcX6_stands, 5, [], 6) := rfl
theorem g_X6_piece : pgG m_X6_piece = some (pcX6_piece, 6, [], 6) := rfl
theorem g_X6_chosen : pgG m_X6_chosen = some (pcX6_chosen, 2, [], 6) := rfl
theorem g_X6_open : pgG m_X6_open = some (pcX6_open, 5, [], 6) := rfl
theorem g_X6_joined : pgG m_X6_joined = some (pcX6_joined, 2, [], 6) := rfl
theorem g_X6_findStanding : pgG m_X6_findStanding = some (pcX6_findStanding, 2, [], 6) := rfl
theorem g_X6_isBroken : pgG m_X6_isBroken = some (pcX6_isBroken, 7, [], 6) := rfl
theorem g_X6_broken : pgG m_X6_broken = some (pcX6_broken, 4, [], 6) := rfl
theorem g_X6_history : pgG m_X6_history = some (pcX6_history, 7, [], 6) := rfl
theorem g_X6_count : pgG m_X6_count = some (pcX6_count, 4, [], 6) := rfl
theorem g_L_cell : pgG m_L_cell = some (pcL_cell, 2, [], 0) := rfl
theorem g_L_rule : pgG m_L_rule = some (pcL_rule, 7, [(0, 19, 22, 0), (0, 19, 26, 1)], 0) := rfl
theorem g_L_net : pgG m_L_net = some (pcL_net, 3, [(0, 8, 11, 2)], 0) := rfl
theorem g_L_pin : pgG m_L_pin = some (pcL_pin, 4, [(0, 9, 12, 0), (0, 9, 15, 2)], 0) := rfl
theorem g_L_access : pgG m_L_access = some (pcL_access, 9, [(0, 21, 24, 0), (0, 21, 28, 2)], 0) := rfl
theorem g_L_bar : pgG m_L_bar = some (pcL_bar, 12, [(0, 24, 27, 0), (0, 24, 31, 1)], 0) := rfl
theorem g_L_shield : pgG m_L_shield = some (pcL_shield, 4, [(0, 16, 19, 0)], 0) := rfl
theorem g_L_run : pgG m_L_run = some (pcL_run, 4, [(0, 9, 12, 1)], 0) := rfl
theorem g_L_piece : pgG m_L_piece = some (pcL_piece, 6, [(0, 12, 15, 0), (0, 12, 19, 2)], 0) := rfl
theorem g_L_chosen : pgG m_L_chosen = some (pcL_chosen, 4, [(0, 9, 12, 0), (0, 9, 15, 2)], 0) := rfl
theorem g_L_open : pgG m_L_open = some (pcL_open, 5, [(0, 10, 13, 0), (0, 10, 17, 2)], 0) := rfl
theorem g_L_joined : pgG m_L_joined = some (pcL_joined, 4, [(0, 16, 19, 0), (0, 16, 22, 2)], 0) := rfl
theorem g_L_broken : pgG m_L_broken = some (pcL_broken, 4, [(0, 9, 12, 0), (0, 9, 15, 2)], 0) := rfl
theorem g_L_history : pgG m_L_history = some (pcL_history, 8, [(0, 13, 16, 0), (0, 13, 20, 2)], 0) := rfl
theorem g_L_count : pgG m_L_count = some (pcL_count, 4, [(0, 9, 12, 0)], 0) := rfl
theorem g_L_law : pgG m_L_law = some (pcL_law, 7, [], 0) := rfl
/-- what the cells are, once class, reference and the law's row of one long are made: L ints in the script, S places -/
def hd0 (L S : Nat) : Nat → (FieldType × Nat) ⊕ Nat
  | 0 => .inl (.int, L)
  | 1 => .inr 5
  | 2 => .inr 2
  | 3 => .inl (.int, 3)
  | 4 => .inl (.int, 3)
  | 5 => .inl (.int, 3)
  | 6 => .inl (.int, S)
  | 7 => .inl (.int, S)
  | 8 => .inl (.int, S)
  | 9 => .inl (.boolean, S)
  | 10 => .inr 0
  | 11 => .inl (.int, 40)
  | 12 => .inl (.int, 16)
  | 13 => .inl (.int, 40)
  | 14 => .inl (.int, 160)
  | 15 => .inr 3
  | 16 => .inl (.int, 40)
  | 17 => .inr 4
  | 18 => .inl (.int, S)
  | 19 => .inl (.int, S)
  | 20 => .inl (.int, S)
  | 21 => .inr 4
  | 22 => .inl (.int, S)
  | 23 => .inl (.int, S)
  | 24 => .inl (.int, S)
  | 25 => .inr 1
  | 26 => .inl (.int, S)
  | 27 => .inl (.int, S)
  | 28 => .inl (.int, S)
  | 29 => .inl (.int, S)
  | 30 => .inl (.int, S)
  | 31 => .inl (.int, S)
  | 32 => .inr 6
  | 33 => .inl (.int, 3)
  | 34 => .inl (.int, 3)
  | 35 => .inl (.int, 3)
  | 36 => .inl (.boolean, 1728)
  | 37 => .inl (.boolean, 16)
  | 38 => .inl (.int, 40)
  | 39 => .inl (.int, 160)
  | 40 => .inl (.int, 40)
  | 41 => .inl (.int, 40)
  | 42 => .inl (.boolean, 16)
  | 43 => .inl (.boolean, 16)
  | 44 => .inl (.int, 16)
  | 45 => .inl (.int, 1728)
  | 46 => .inl (.boolean, 27648)
  | 47 => .inl (.boolean, 27648)
  | 48 => .inl (.boolean, 1728)
  | 49 => .inl (.boolean, 1728)
  | 50 => .inl (.boolean, 1728)
  | 51 => .inl (.boolean, 1728)
  | 52 => .inl (.int, 1728)
  | 53 => .inl (.boolean, 16)
  | 54 => .inl (.boolean, 27648)
  | 55 => .inl (.long, 1)
  | _ => .inl (.int, L)
def R0 : Nat → Nat → Option Nat
  | 1, 0 => some 2
  | 1, 1 => some 10
  | 1, 2 => some 15
  | 2, 5 => some 6
  | 2, 6 => some 7
  | 2, 7 => some 8
  | 2, 8 => some 3
  | 2, 9 => some 4
  | 2, 10 => some 5
  | 2, 11 => some 9
  | 10, 3 => some 11
  | 10, 4 => some 12
  | 10, 5 => some 13
  | 10, 6 => some 14
  | 15, 0 => some 2
  | 15, 1 => some 10
  | 15, 2 => some 17
  | 15, 3 => some 21
  | 15, 4 => some 25
  | 15, 5 => some 16
  | 15, 6 => some 29
  | 15, 7 => some 30
  | 15, 8 => some 31
  | 17, 0 => some 2
  | 17, 1 => some 18
  | 17, 2 => some 19
  | 17, 3 => some 20
  | 21, 0 => some 2
  | 21, 1 => some 22
  | 21, 2 => some 23
  | 21, 3 => some 24
  | 25, 0 => some 26
  | 25, 1 => some 27
  | 25, 2 => some 28
  | 32, 4 => some 33
  | 32, 5 => some 34
  | 32, 6 => some 35
  | 32, 7 => some 36
  | 32, 9 => some 37
  | 32, 11 => some 38
  | 32, 12 => some 39
  | 32, 13 => some 40
  | 32, 15 => some 41
  | 32, 16 => some 42
  | 32, 17 => some 43
  | 32, 18 => some 44
  | 32, 19 => some 45
  | 32, 20 => some 46
  | 32, 21 => some 47
  | 32, 25 => some 48
  | 32, 26 => some 49
  | 32, 27 => some 50
  | 32, 28 => some 51
  | 32, 29 => some 52
  | 32, 30 => some 53
  | 32, 31 => some 54
  | _, _ => none
abbrev wd (nc ns L S : Nat) (I : Nat → Nat → Int32) (J : Nat → Nat → Int64) : pmW := (55, nc, ns, hd0 L S, R0, I, J)
theorem MX.of {mid : Nat} {M : pmM} {args : List Value} {w : pmW} {Q : pmO → pmW → Prop} (hG : pgG mid = some M) (h : PX mid 0 (pmPad M.2.1 (pmEnt args)) [] w Q) : MX mid args w Q := fun M2 hM => by
  cases Option.some.inj (hG.symm.trans hM)
  exact h
