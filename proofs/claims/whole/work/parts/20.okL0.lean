set_option maxRecDepth 100000 in
theorem ok_L_law_0 : pcL_law_0.all (fun e => pgChk (pgHint phL_law e.1) m_L_law (pgAt m_L_law) e) = true := by decide +kernel
set_option maxRecDepth 100000 in
theorem ok_L_law_1 : pcL_law_1.all (fun e => pgChk (pgHint phL_law e.1) m_L_law (pgAt m_L_law) e) = true := by decide +kernel
set_option maxRecDepth 100000 in
theorem ok_L_law_2 : pcL_law_2.all (fun e => pgChk (pgHint phL_law e.1) m_L_law (pgAt m_L_law) e) = true := by decide +kernel
set_option maxRecDepth 100000 in
theorem ok_L_law_3 : pcL_law_3.all (fun e => pgChk (pgHint phL_law e.1) m_L_law (pgAt m_L_law) e) = true := by decide +kernel
set_option maxRecDepth 100000 in
theorem ok_L_law_4 : pcL_law_4.all (fun e => pgChk (pgHint phL_law e.1) m_L_law (pgAt m_L_law) e) = true := by decide +kernel
set_option maxRecDepth 100000 in
theorem ok_L_law_5 : pcL_law_5.all (fun e => pgChk (pgHint phL_law e.1) m_L_law (pgAt m_L_law) e) = true := by decide +kernel
set_option maxRecDepth 100000 in
theorem ok_L_law_6 : pcL_law_6.all (fun e => pgChk (pgHint phL_law e.1) m_L_law (pgAt m_L_law) e) = true := by decide +kernel
set_option maxRecDepth 100000 in
theorem ok_L_law_7 : pcL_law_7.all (fun e => pgChk (pgHint phL_law e.1) m_L_law (pgAt m_L_law) e) = true := by decide +kernel
set_option maxRecDepth 100000 in
theorem ok_L_law_8 : pcL_law_8.all (fun e => pgChk (pgHint phL_law e.1) m_L_law (pgAt m_L_law) e) = true := by decide +kernel
set_option maxRecDepth 100000 in
theorem ok_L_law_9 : pcL_law_9.all (fun e => pgChk (pgHint phL_law e.1) m_L_law (pgAt m_L_law) e) = true := by decide +kernel
set_option maxRecDepth 100000 in
theorem ok_L_law_10 : pcL_law_10.all (fun e => pgChk (pgHint phL_law e.1) m_L_law (pgAt m_L_law) e) = true := by decide +kernel
set_option maxRecDepth 100000 in
theorem ok_L_law_11 : pcL_law_11.all (fun e => pgChk (pgHint phL_law e.1) m_L_law (pgAt m_L_law) e) = true := by decide +kernel
set_option maxRecDepth 100000 in
theorem ok_L_law_12 : pcL_law_12.all (fun e => pgChk (pgHint phL_law e.1) m_L_law (pgAt m_L_law) e) = true := by decide +kernel
set_option maxRecDepth 100000 in
theorem ok_L_law_13 : pcL_law_13.all (fun e => pgChk (pgHint phL_law e.1) m_L_law (pgAt m_L_law) e) = true := by decide +kernel
set_option maxRecDepth 100000 in
theorem ok_L_law_14 : pcL_law_14.all (fun e => pgChk (pgHint phL_law e.1) m_L_law (pgAt m_L_law) e) = true := by decide +kernel
