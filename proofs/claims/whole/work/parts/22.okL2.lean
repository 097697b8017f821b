set_option maxRecDepth 100000 in
theorem ok_L_law_30 : pcL_law_30.all (fun e => pgChk (pgHint phL_law e.1) m_L_law (pgAt m_L_law) e) = true := by decide +kernel
set_option maxRecDepth 100000 in
theorem ok_L_law_31 : pcL_law_31.all (fun e => pgChk (pgHint phL_law e.1) m_L_law (pgAt m_L_law) e) = true := by decide +kernel
set_option maxRecDepth 100000 in
theorem ok_L_law_32 : pcL_law_32.all (fun e => pgChk (pgHint phL_law e.1) m_L_law (pgAt m_L_law) e) = true := by decide +kernel
set_option maxRecDepth 100000 in
theorem ok_L_law_33 : pcL_law_33.all (fun e => pgChk (pgHint phL_law e.1) m_L_law (pgAt m_L_law) e) = true := by decide +kernel
set_option maxRecDepth 100000 in
theorem ok_L_law_34 : pcL_law_34.all (fun e => pgChk (pgHint phL_law e.1) m_L_law (pgAt m_L_law) e) = true := by decide +kernel
set_option maxRecDepth 100000 in
theorem ok_L_law_35 : pcL_law_35.all (fun e => pgChk (pgHint phL_law e.1) m_L_law (pgAt m_L_law) e) = true := by decide +kernel
set_option maxRecDepth 100000 in
theorem ok_L_law_36 : pcL_law_36.all (fun e => pgChk (pgHint phL_law e.1) m_L_law (pgAt m_L_law) e) = true := by decide +kernel
set_option maxRecDepth 100000 in
theorem ok_L_law_37 : pcL_law_37.all (fun e => pgChk (pgHint phL_law e.1) m_L_law (pgAt m_L_law) e) = true := by decide +kernel
set_option maxRecDepth 100000 in
theorem ok_L_law_38 : pcL_law_38.all (fun e => pgChk (pgHint phL_law e.1) m_L_law (pgAt m_L_law) e) = true := by decide +kernel
set_option maxRecDepth 100000 in
theorem ok_L_law_39 : pcL_law_39.all (fun e => pgChk (pgHint phL_law e.1) m_L_law (pgAt m_L_law) e) = true := by decide +kernel
set_option maxRecDepth 100000 in
theorem ok_L_law_40 : pcL_law_40.all (fun e => pgChk (pgHint phL_law e.1) m_L_law (pgAt m_L_law) e) = true := by decide +kernel
set_option maxRecDepth 100000 in
theorem ok_L_law_41 : pcL_law_41.all (fun e => pgChk (pgHint phL_law e.1) m_L_law (pgAt m_L_law) e) = true := by decide +kernel
set_option maxRecDepth 100000 in
theorem ok_L_law_42 : pcL_law_42.all (fun e => pgChk (pgHint phL_law e.1) m_L_law (pgAt m_L_law) e) = true := by decide +kernel
set_option maxRecDepth 100000 in
theorem ok_L_law_43 : pcL_law_43.all (fun e => pgChk (pgHint phL_law e.1) m_L_law (pgAt m_L_law) e) = true := by decide +kernel
set_option maxRecDepth 100000 in
theorem ok_L_law_44 : pcL_law_44.all (fun e => pgChk (pgHint phL_law e.1) m_L_law (pgAt m_L_law) e) = true := by decide +kernel
