set_option maxRecDepth 100000 in
theorem am_e0_0 : (am_c0_0.all fun q => am_dec cL_law q.1 q.2.1) = true := by decide +kernel
set_option maxRecDepth 100000 in
theorem am_f0_0 : (am_c0_0.all fun q => am_chkI yL_law.cls yL_law.name q.1 q.2.1 q.2.2 && am_chkT (some .boolean) q.2.1) = true := by decide +kernel
set_option maxRecDepth 100000 in
theorem am_e0_1 : (am_c0_1.all fun q => am_dec cL_law q.1 q.2.1) = true := by decide +kernel
set_option maxRecDepth 100000 in
theorem am_f0_1 : (am_c0_1.all fun q => am_chkI yL_law.cls yL_law.name q.1 q.2.1 q.2.2 && am_chkT (some .boolean) q.2.1) = true := by decide +kernel
set_option maxRecDepth 100000 in
theorem am_e0_2 : (am_c0_2.all fun q => am_dec cL_law q.1 q.2.1) = true := by decide +kernel
set_option maxRecDepth 100000 in
theorem am_f0_2 : (am_c0_2.all fun q => am_chkI yL_law.cls yL_law.name q.1 q.2.1 q.2.2 && am_chkT (some .boolean) q.2.1) = true := by decide +kernel
set_option maxRecDepth 100000 in
theorem am_e0_3 : (am_c0_3.all fun q => am_dec cL_law q.1 q.2.1) = true := by decide +kernel
set_option maxRecDepth 100000 in
theorem am_f0_3 : (am_c0_3.all fun q => am_chkI yL_law.cls yL_law.name q.1 q.2.1 q.2.2 && am_chkT (some .boolean) q.2.1) = true := by decide +kernel
set_option maxRecDepth 100000 in
theorem am_e0_4 : (am_c0_4.all fun q => am_dec cL_law q.1 q.2.1) = true := by decide +kernel
set_option maxRecDepth 100000 in
theorem am_f0_4 : (am_c0_4.all fun q => am_chkI yL_law.cls yL_law.name q.1 q.2.1 q.2.2 && am_chkT (some .boolean) q.2.1) = true := by decide +kernel
set_option maxRecDepth 100000 in
theorem am_e0_5 : (am_c0_5.all fun q => am_dec cL_law q.1 q.2.1) = true := by decide +kernel
set_option maxRecDepth 100000 in
theorem am_f0_5 : (am_c0_5.all fun q => am_chkI yL_law.cls yL_law.name q.1 q.2.1 q.2.2 && am_chkT (some .boolean) q.2.1) = true := by decide +kernel
set_option maxRecDepth 100000 in
theorem am_e0_6 : (am_c0_6.all fun q => am_dec cL_law q.1 q.2.1) = true := by decide +kernel
set_option maxRecDepth 100000 in
theorem am_f0_6 : (am_c0_6.all fun q => am_chkI yL_law.cls yL_law.name q.1 q.2.1 q.2.2 && am_chkT (some .boolean) q.2.1) = true := by decide +kernel
set_option maxRecDepth 100000 in
theorem am_e0_7 : (am_c0_7.all fun q => am_dec cL_law q.1 q.2.1) = true := by decide +kernel
set_option maxRecDepth 100000 in
theorem am_f0_7 : (am_c0_7.all fun q => am_chkI yL_law.cls yL_law.name q.1 q.2.1 q.2.2 && am_chkT (some .boolean) q.2.1) = true := by decide +kernel
set_option maxRecDepth 100000 in
theorem am_e0_8 : (am_c0_8.all fun q => am_dec cL_law q.1 q.2.1) = true := by decide +kernel
set_option maxRecDepth 100000 in
theorem am_f0_8 : (am_c0_8.all fun q => am_chkI yL_law.cls yL_law.name q.1 q.2.1 q.2.2 && am_chkT (some .boolean) q.2.1) = true := by decide +kernel
set_option maxRecDepth 100000 in
theorem am_e0_9 : (am_c0_9.all fun q => am_dec cL_law q.1 q.2.1) = true := by decide +kernel
set_option maxRecDepth 100000 in
theorem am_f0_9 : (am_c0_9.all fun q => am_chkI yL_law.cls yL_law.name q.1 q.2.1 q.2.2 && am_chkT (some .boolean) q.2.1) = true := by decide +kernel
set_option maxRecDepth 100000 in
theorem am_e0_10 : (am_c0_10.all fun q => am_dec cL_law q.1 q.2.1) = true := by decide +kernel
set_option maxRecDepth 100000 in
theorem am_f0_10 : (am_c0_10.all fun q => am_chkI yL_law.cls yL_law.name q.1 q.2.1 q.2.2 && am_chkT (some .boolean) q.2.1) = true := by decide +kernel
