set_option maxRecDepth 100000 in
theorem ok_X6_goal : pgChkM m_X6_goal phX6_goal = true := by decide +kernel
set_option maxRecDepth 100000 in
theorem ok_X6_isDone : pgChkM m_X6_isDone phX6_isDone = true := by decide +kernel
set_option maxRecDepth 100000 in
theorem ok_X6_backFrom : pgChkM m_X6_backFrom phX6_backFrom = true := by decide +kernel
set_option maxRecDepth 100000 in
theorem ok_X6_tearAt : pgChkM m_X6_tearAt phX6_tearAt = true := by decide +kernel
set_option maxRecDepth 100000 in
theorem ok_X6_take : pgChkM m_X6_take phX6_take = true := by decide +kernel
set_option maxRecDepth 100000 in
theorem ok_X6_dropRoute : pgChkM m_X6_dropRoute phX6_dropRoute = true := by decide +kernel
set_option maxRecDepth 100000 in
theorem ok_X6_routeNet : pgChkM m_X6_routeNet phX6_routeNet = true := by decide +kernel
set_option maxRecDepth 100000 in
theorem ok_X6_run : pgChkM m_X6_run phX6_run = true := by decide +kernel
set_option maxRecDepth 100000 in
theorem ok_X6_isLeft : pgChkM m_X6_isLeft phX6_isLeft = true := by decide +kernel
set_option maxRecDepth 100000 in
theorem ok_X6_stands : pgChkM m_X6_stands phX6_stands = true := by decide +kernel
set_option maxRecDepth 100000 in
theorem ok_X6_piece : pgChkM m_X6_piece phX6_piece = true := by decide +kernel
set_option maxRecDepth 100000 in
theorem ok_X6_chosen : pgChkM m_X6_chosen phX6_chosen = true := by decide +kernel
set_option maxRecDepth 100000 in
theorem ok_X6_open : pgChkM m_X6_open phX6_open = true := by decide +kernel
set_option maxRecDepth 100000 in
theorem ok_X6_joined : pgChkM m_X6_joined phX6_joined = true := by decide +kernel
set_option maxRecDepth 100000 in
theorem ok_X6_findStanding : pgChkM m_X6_findStanding phX6_findStanding = true := by decide +kernel
set_option maxRecDepth 100000 in
theorem ok_X6_isBroken : pgChkM m_X6_isBroken phX6_isBroken = true := by decide +kernel
set_option maxRecDepth 100000 in
theorem ok_X6_broken : pgChkM m_X6_broken phX6_broken = true := by decide +kernel
set_option maxRecDepth 100000 in
theorem ok_X6_history : pgChkM m_X6_history phX6_history = true := by decide +kernel
set_option maxRecDepth 100000 in
theorem ok_X6_count : pgChkM m_X6_count phX6_count = true := by decide +kernel
set_option maxRecDepth 100000 in
theorem ok_L_cell : pgChkM m_L_cell phL_cell = true := by decide +kernel
set_option maxRecDepth 100000 in
theorem ok_L_rule : pgChkM m_L_rule phL_rule = true := by decide +kernel
set_option maxRecDepth 100000 in
theorem ok_L_net : pgChkM m_L_net phL_net = true := by decide +kernel
set_option maxRecDepth 100000 in
theorem ok_L_pin : pgChkM m_L_pin phL_pin = true := by decide +kernel
set_option maxRecDepth 100000 in
theorem ok_L_access : pgChkM m_L_access phL_access = true := by decide +kernel
set_option maxRecDepth 100000 in
theorem ok_L_bar : pgChkM m_L_bar phL_bar = true := by decide +kernel
set_option maxRecDepth 100000 in
theorem ok_L_shield : pgChkM m_L_shield phL_shield = true := by decide +kernel
set_option maxRecDepth 100000 in
theorem ok_L_run : pgChkM m_L_run phL_run = true := by decide +kernel
set_option maxRecDepth 100000 in
theorem ok_L_piece : pgChkM m_L_piece phL_piece = true := by decide +kernel
set_option maxRecDepth 100000 in
theorem ok_L_chosen : pgChkM m_L_chosen phL_chosen = true := by decide +kernel
set_option maxRecDepth 100000 in
theorem ok_L_open : pgChkM m_L_open phL_open = true := by decide +kernel
set_option maxRecDepth 100000 in
theorem ok_L_joined : pgChkM m_L_joined phL_joined = true := by decide +kernel
set_option maxRecDepth 100000 in
theorem ok_L_broken : pgChkM m_L_broken phL_broken = true := by decide +kernel
set_option maxRecDepth 100000 in
theorem ok_L_history : pgChkM m_L_history phL_history = true := by decide +kernel
set_option maxRecDepth 100000 in
theorem ok_L_count : pgChkM m_L_count phL_count = true := by decide +kernel
