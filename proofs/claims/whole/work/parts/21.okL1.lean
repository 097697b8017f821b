set_option maxRecDepth 100000 in
theorem ok_L_law_15 : pcL_law_15.all (fun e => pgChk (pgHint phL_law e.1) m_L_law (pgAt m_L_law) e) = true := by decide +kernel
set_option maxRecDepth 100000 in
theorem ok_L_law_16 : pcL_law_16.all (fun e => pgChk (pgHint phL_law e.1) m_L_law (pgAt m_L_law) e) = true := by decide +kernel
set_option maxRecDepth 100000 in
theorem ok_L_law_17 : pcL_law_17.all (fun e => pgChk (pgHint phL_law e.1) m_L_law (pgAt m_L_law) e) = true := by decide +kernel
set_option maxRecDepth 100000 in
theorem ok_L_law_18 : pcL_law_18.all (fun e => pgChk (pgHint phL_law e.1) m_L_law (pgAt m_L_law) e) = true := by decide +kernel
set_option maxRecDepth 100000 in
theorem ok_L_law_19 : pcL_law_19.all (fun e => pgChk (pgHint phL_law e.1) m_L_law (pgAt m_L_law) e) = true := by decide +kernel
set_option maxRecDepth 100000 in
theorem ok_L_law_20 : pcL_law_20.all (fun e => pgChk (pgHint phL_law e.1) m_L_law (pgAt m_L_law) e) = true := by decide +kernel
set_option maxRecDepth 100000 in
theorem ok_L_law_21 : pcL_law_21.all (fun e => pgChk (pgHint phL_law e.1) m_L_law (pgAt m_L_law) e) = true := by decide +kernel
set_option maxRecDepth 100000 in
theorem ok_L_law_22 : pcL_law_22.all (fun e => pgChk (pgHint phL_law e.1) m_L_law (pgAt m_L_law) e) = true := by decide +kernel
set_option maxRecDepth 100000 in
theorem ok_L_law_23 : pcL_law_23.all (fun e => pgChk (pgHint phL_law e.1) m_L_law (pgAt m_L_law) e) = true := by decide +kernel
set_option maxRecDepth 100000 in
theorem ok_L_law_24 : pcL_law_24.all (fun e => pgChk (pgHint phL_law e.1) m_L_law (pgAt m_L_law) e) = true := by decide +kernel
set_option maxRecDepth 100000 in
theorem ok_L_law_25 : pcL_law_25.all (fun e => pgChk (pgHint phL_law e.1) m_L_law (pgAt m_L_law) e) = true := by decide +kernel
set_option maxRecDepth 100000 in
theorem ok_L_law_26 : pcL_law_26.all (fun e => pgChk (pgHint phL_law e.1) m_L_law (pgAt m_L_law) e) = true := by decide +kernel
set_option maxRecDepth 100000 in
theorem ok_L_law_27 : pcL_law_27.all (fun e => pgChk (pgHint phL_law e.1) m_L_law (pgAt m_L_law) e) = true := by decide +kernel
set_option maxRecDepth 100000 in
theorem ok_L_law_28 : pcL_law_28.all (fun e => pgChk (pgHint phL_law e.1) m_L_law (pgAt m_L_law) e) = true := by decide +kernel
set_option maxRecDepth 100000 in
theorem ok_L_law_29 : pcL_law_29.all (fun e => pgChk (pgHint phL_law e.1) m_L_law (pgAt m_L_law) e) = true := by decide +kernel
