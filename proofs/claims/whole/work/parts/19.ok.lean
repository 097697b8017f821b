set_option maxRecDepth 100000 in
theorem ok_X1_put : pgChkM m_X1_put = true := by decide +kernel
set_option maxRecDepth 100000 in
theorem ok_X5_rule : pgChkM m_X5_rule = true := by decide +kernel
set_option maxRecDepth 100000 in
theorem ok_X5_init : pgChkM m_X5_init = true := by decide +kernel
set_option maxRecDepth 100000 in
theorem ok_X2_stepCost : pgChkM m_X2_stepCost = true := by decide +kernel
