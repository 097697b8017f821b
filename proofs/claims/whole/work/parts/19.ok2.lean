set_option maxRecDepth 100000 in
theorem ok_X5_needPin : pgChkM m_X5_needPin phX5_needPin = true := by decide +kernel
set_option maxRecDepth 100000 in
theorem ok_X5_needWhat : pgChkM m_X5_needWhat phX5_needWhat = true := by decide +kernel
set_option maxRecDepth 100000 in
theorem ok_X5_needNotBelowZero : pgChkM m_X5_needNotBelowZero phX5_needNotBelowZero = true := by decide +kernel
set_option maxRecDepth 100000 in
theorem ok_X5_needRun : pgChkM m_X5_needRun phX5_needRun = true := by decide +kernel
set_option maxRecDepth 100000 in
theorem ok_X5_isIn : pgChkM m_X5_isIn phX5_isIn = true := by decide +kernel
set_option maxRecDepth 100000 in
theorem ok_X6_init : pgChkM m_X6_init phX6_init = true := by decide +kernel
set_option maxRecDepth 100000 in
theorem ok_X6_thrown : pgChkM m_X6_thrown phX6_thrown = true := by decide +kernel
set_option maxRecDepth 100000 in
theorem ok_X6_clip : pgChkM m_X6_clip phX6_clip = true := by decide +kernel
set_option maxRecDepth 100000 in
theorem ok_X6_isIn : pgChkM m_X6_isIn phX6_isIn = true := by decide +kernel
set_option maxRecDepth 100000 in
theorem ok_X6_refuses : pgChkM m_X6_refuses phX6_refuses = true := by decide +kernel
set_option maxRecDepth 100000 in
theorem ok_X6_all : pgChkM m_X6_all phX6_all = true := by decide +kernel
set_option maxRecDepth 100000 in
theorem ok_X6_placeOf : pgChkM m_X6_placeOf phX6_placeOf = true := by decide +kernel
set_option maxRecDepth 100000 in
theorem ok_X6_layerOf : pgChkM m_X6_layerOf phX6_layerOf = true := by decide +kernel
set_option maxRecDepth 100000 in
theorem ok_X6_xOf : pgChkM m_X6_xOf phX6_xOf = true := by decide +kernel
set_option maxRecDepth 100000 in
theorem ok_X6_yOf : pgChkM m_X6_yOf phX6_yOf = true := by decide +kernel
set_option maxRecDepth 100000 in
theorem ok_X6_rule : pgChkM m_X6_rule phX6_rule = true := by decide +kernel
set_option maxRecDepth 100000 in
theorem ok_X6_net : pgChkM m_X6_net phX6_net = true := by decide +kernel
set_option maxRecDepth 100000 in
theorem ok_X6_isNet : pgChkM m_X6_isNet phX6_isNet = true := by decide +kernel
set_option maxRecDepth 100000 in
theorem ok_X6_isPin : pgChkM m_X6_isPin phX6_isPin = true := by decide +kernel
set_option maxRecDepth 100000 in
theorem ok_X6_pin : pgChkM m_X6_pin phX6_pin = true := by decide +kernel
set_option maxRecDepth 100000 in
theorem ok_X6_access : pgChkM m_X6_access phX6_access = true := by decide +kernel
set_option maxRecDepth 100000 in
theorem ok_X6_bar : pgChkM m_X6_bar phX6_bar = true := by decide +kernel
set_option maxRecDepth 100000 in
theorem ok_X6_shield : pgChkM m_X6_shield phX6_shield = true := by decide +kernel
set_option maxRecDepth 100000 in
theorem ok_X6_apart : pgChkM m_X6_apart phX6_apart = true := by decide +kernel
set_option maxRecDepth 100000 in
theorem ok_X6_clashes : pgChkM m_X6_clashes phX6_clashes = true := by decide +kernel
set_option maxRecDepth 100000 in
theorem ok_X6_placeOfPin : pgChkM m_X6_placeOfPin phX6_placeOfPin = true := by decide +kernel
set_option maxRecDepth 100000 in
theorem ok_X6_mayBe : pgChkM m_X6_mayBe phX6_mayBe = true := by decide +kernel
set_option maxRecDepth 100000 in
theorem ok_X6_pick : pgChkM m_X6_pick phX6_pick = true := by decide +kernel
set_option maxRecDepth 100000 in
theorem ok_X6_mark : pgChkM m_X6_mark phX6_mark = true := by decide +kernel
set_option maxRecDepth 100000 in
theorem ok_X6_markAll : pgChkM m_X6_markAll phX6_markAll = true := by decide +kernel
set_option maxRecDepth 100000 in
theorem ok_X6_beside : pgChkM m_X6_beside phX6_beside = true := by decide +kernel
set_option maxRecDepth 100000 in
theorem ok_X6_stepCost : pgChkM m_X6_stepCost phX6_stepCost = true := by decide +kernel
set_option maxRecDepth 100000 in
theorem ok_X6_isOpen : pgChkM m_X6_isOpen phX6_isOpen = true := by decide +kernel
set_option maxRecDepth 100000 in
theorem ok_X6_extra : pgChkM m_X6_extra phX6_extra = true := by decide +kernel
set_option maxRecDepth 100000 in
theorem ok_X6_lower : pgChkM m_X6_lower phX6_lower = true := by decide +kernel
