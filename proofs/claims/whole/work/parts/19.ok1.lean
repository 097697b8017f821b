set_option maxRecDepth 100000 in
theorem ok_X3_traceBack : pgChkM m_X3_traceBack phX3_traceBack = true := by decide +kernel
set_option maxRecDepth 100000 in
theorem ok_X3_placeBefore : pgChkM m_X3_placeBefore phX3_placeBefore = true := by decide +kernel
set_option maxRecDepth 100000 in
theorem ok_X3_tearUp : pgChkM m_X3_tearUp phX3_tearUp = true := by decide +kernel
set_option maxRecDepth 100000 in
theorem ok_X3_dropRoute : pgChkM m_X3_dropRoute phX3_dropRoute = true := by decide +kernel
set_option maxRecDepth 100000 in
theorem ok_X3_layWay : pgChkM m_X3_layWay phX3_layWay = true := by decide +kernel
set_option maxRecDepth 100000 in
theorem ok_X3_standingAt : pgChkM m_X3_standingAt phX3_standingAt = true := by decide +kernel
set_option maxRecDepth 100000 in
theorem ok_X3_clashingPlace : pgChkM m_X3_clashingPlace phX3_clashingPlace = true := by decide +kernel
set_option maxRecDepth 100000 in
theorem ok_X3_hasClash : pgChkM m_X3_hasClash phX3_hasClash = true := by decide +kernel
set_option maxRecDepth 100000 in
theorem ok_X3_openNet : pgChkM m_X3_openNet phX3_openNet = true := by decide +kernel
set_option maxRecDepth 100000 in
theorem ok_X3_whyOpen : pgChkM m_X3_whyOpen phX3_whyOpen = true := by decide +kernel
set_option maxRecDepth 100000 in
theorem ok_X4_init : pgChkM m_X4_init phX4_init = true := by decide +kernel
set_option maxRecDepth 100000 in
theorem ok_X4_clear : pgChkM m_X4_clear phX4_clear = true := by decide +kernel
set_option maxRecDepth 100000 in
theorem ok_X4_add : pgChkM m_X4_add phX4_add = true := by decide +kernel
set_option maxRecDepth 100000 in
theorem ok_X4_mark : pgChkM m_X4_mark phX4_mark = true := by decide +kernel
set_option maxRecDepth 100000 in
theorem ok_X4_drop : pgChkM m_X4_drop phX4_drop = true := by decide +kernel
set_option maxRecDepth 100000 in
theorem ok_X4_clashing : pgChkM m_X4_clashing phX4_clashing = true := by decide +kernel
set_option maxRecDepth 100000 in
theorem ok_X5_init : pgChkM m_X5_init phX5_init = true := by decide +kernel
set_option maxRecDepth 100000 in
theorem ok_X5_rule : pgChkM m_X5_rule phX5_rule = true := by decide +kernel
set_option maxRecDepth 100000 in
theorem ok_X5_net : pgChkM m_X5_net phX5_net = true := by decide +kernel
set_option maxRecDepth 100000 in
theorem ok_X5_pin : pgChkM m_X5_pin phX5_pin = true := by decide +kernel
set_option maxRecDepth 100000 in
theorem ok_X5_access : pgChkM m_X5_access phX5_access = true := by decide +kernel
set_option maxRecDepth 100000 in
theorem ok_X5_bar : pgChkM m_X5_bar phX5_bar = true := by decide +kernel
set_option maxRecDepth 100000 in
theorem ok_X5_shield : pgChkM m_X5_shield phX5_shield = true := by decide +kernel
set_option maxRecDepth 100000 in
theorem ok_X5_run : pgChkM m_X5_run phX5_run = true := by decide +kernel
set_option maxRecDepth 100000 in
theorem ok_X5_piece : pgChkM m_X5_piece phX5_piece = true := by decide +kernel
set_option maxRecDepth 100000 in
theorem ok_X5_chosen : pgChkM m_X5_chosen phX5_chosen = true := by decide +kernel
set_option maxRecDepth 100000 in
theorem ok_X5_open : pgChkM m_X5_open phX5_open = true := by decide +kernel
set_option maxRecDepth 100000 in
theorem ok_X5_joined : pgChkM m_X5_joined phX5_joined = true := by decide +kernel
set_option maxRecDepth 100000 in
theorem ok_X5_broken : pgChkM m_X5_broken phX5_broken = true := by decide +kernel
set_option maxRecDepth 100000 in
theorem ok_X5_history : pgChkM m_X5_history phX5_history = true := by decide +kernel
set_option maxRecDepth 100000 in
theorem ok_X5_count : pgChkM m_X5_count phX5_count = true := by decide +kernel
set_option maxRecDepth 100000 in
theorem ok_X5_rulesOf : pgChkM m_X5_rulesOf phX5_rulesOf = true := by decide +kernel
set_option maxRecDepth 100000 in
theorem ok_X5_needLayer : pgChkM m_X5_needLayer phX5_needLayer = true := by decide +kernel
set_option maxRecDepth 100000 in
theorem ok_X5_needPlace : pgChkM m_X5_needPlace phX5_needPlace = true := by decide +kernel
set_option maxRecDepth 100000 in
theorem ok_X5_needNet : pgChkM m_X5_needNet phX5_needNet = true := by decide +kernel
