set_option maxRecDepth 100000 in
theorem ok_J6_bitCount_0f7a4 : pgChkM m_J6_bitCount_0f7a4 phJ6_bitCount_0f7a4 = true := by decide +kernel
set_option maxRecDepth 100000 in
theorem ok_J7_fill_53178 : pgChkM m_J7_fill_53178 phJ7_fill_53178 = true := by decide +kernel
set_option maxRecDepth 100000 in
theorem ok_X0_init : pgChkM m_X0_init phX0_init = true := by decide +kernel
set_option maxRecDepth 100000 in
theorem ok_X0_addNet : pgChkM m_X0_addNet phX0_addNet = true := by decide +kernel
set_option maxRecDepth 100000 in
theorem ok_X0_addPin : pgChkM m_X0_addPin phX0_addPin = true := by decide +kernel
set_option maxRecDepth 100000 in
theorem ok_X0_accessPlace : pgChkM m_X0_accessPlace phX0_accessPlace = true := by decide +kernel
set_option maxRecDepth 100000 in
theorem ok_X0_hasAccess : pgChkM m_X0_hasAccess phX0_hasAccess = true := by decide +kernel
set_option maxRecDepth 100000 in
theorem ok_X0_addAccess : pgChkM m_X0_addAccess phX0_addAccess = true := by decide +kernel
set_option maxRecDepth 100000 in
theorem ok_X1_init : pgChkM m_X1_init phX1_init = true := by decide +kernel
set_option maxRecDepth 100000 in
theorem ok_X1_clear : pgChkM m_X1_clear phX1_clear = true := by decide +kernel
set_option maxRecDepth 100000 in
theorem ok_X1_offer : pgChkM m_X1_offer phX1_offer = true := by decide +kernel
set_option maxRecDepth 100000 in
theorem ok_X1_take : pgChkM m_X1_take phX1_take = true := by decide +kernel
set_option maxRecDepth 100000 in
theorem ok_X1_sink : pgChkM m_X1_sink phX1_sink = true := by decide +kernel
set_option maxRecDepth 100000 in
theorem ok_X1_isBefore : pgChkM m_X1_isBefore phX1_isBefore = true := by decide +kernel
set_option maxRecDepth 100000 in
theorem ok_X1_put : pgChkM m_X1_put phX1_put = true := by decide +kernel
set_option maxRecDepth 100000 in
theorem ok_X2_init : pgChkM m_X2_init phX2_init = true := by decide +kernel
set_option maxRecDepth 100000 in
theorem ok_X2_numberPlaces : pgChkM m_X2_numberPlaces phX2_numberPlaces = true := by decide +kernel
set_option maxRecDepth 100000 in
theorem ok_X2_placeAt : pgChkM m_X2_placeAt phX2_placeAt = true := by decide +kernel
set_option maxRecDepth 100000 in
theorem ok_X2_close : pgChkM m_X2_close phX2_close = true := by decide +kernel
set_option maxRecDepth 100000 in
theorem ok_X2_beside : pgChkM m_X2_beside phX2_beside = true := by decide +kernel
set_option maxRecDepth 100000 in
theorem ok_X2_stepCost : pgChkM m_X2_stepCost phX2_stepCost = true := by decide +kernel
set_option maxRecDepth 100000 in
theorem ok_X3_init : pgChkM m_X3_init phX3_init = true := by decide +kernel
set_option maxRecDepth 100000 in
theorem ok_X3_begin : pgChkM m_X3_begin phX3_begin = true := by decide +kernel
set_option maxRecDepth 100000 in
theorem ok_X3_choosePlaces : pgChkM m_X3_choosePlaces phX3_choosePlaces = true := by decide +kernel
set_option maxRecDepth 100000 in
theorem ok_X3_firstFit : pgChkM m_X3_firstFit phX3_firstFit = true := by decide +kernel
set_option maxRecDepth 100000 in
theorem ok_X3_makeRounds : pgChkM m_X3_makeRounds phX3_makeRounds = true := by decide +kernel
set_option maxRecDepth 100000 in
theorem ok_X3_waits : pgChkM m_X3_waits phX3_waits = true := by decide +kernel
set_option maxRecDepth 100000 in
theorem ok_X3_someWait : pgChkM m_X3_someWait phX3_someWait = true := by decide +kernel
set_option maxRecDepth 100000 in
theorem ok_X3_route : pgChkM m_X3_route phX3_route = true := by decide +kernel
set_option maxRecDepth 100000 in
theorem ok_X3_countWay : pgChkM m_X3_countWay phX3_countWay = true := by decide +kernel
set_option maxRecDepth 100000 in
theorem ok_X3_placeOutside : pgChkM m_X3_placeOutside phX3_placeOutside = true := by decide +kernel
set_option maxRecDepth 100000 in
theorem ok_X3_findEnd : pgChkM m_X3_findEnd phX3_findEnd = true := by decide +kernel
set_option maxRecDepth 100000 in
theorem ok_X3_isGoal : pgChkM m_X3_isGoal phX3_isGoal = true := by decide +kernel
set_option maxRecDepth 100000 in
theorem ok_X3_offerAround : pgChkM m_X3_offerAround phX3_offerAround = true := by decide +kernel
set_option maxRecDepth 100000 in
theorem ok_X3_entryCost : pgChkM m_X3_entryCost phX3_entryCost = true := by decide +kernel
