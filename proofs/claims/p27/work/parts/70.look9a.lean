theorem kL_0 : pL_law_0.all (am_oki am_B am_Lb am_sites am_nests) = true := by decide +kernel
theorem kL_1 : pL_law_1.all (am_oki am_B am_Lb am_sites am_nests) = true := by decide +kernel
theorem kL_2 : pL_law_2.all (am_oki am_B am_Lb am_sites am_nests) = true := by decide +kernel
theorem kL_3 : pL_law_3.all (am_oki am_B am_Lb am_sites am_nests) = true := by decide +kernel
theorem kL_4 : pL_law_4.all (am_oki am_B am_Lb am_sites am_nests) = true := by decide +kernel
theorem kL_5 : pL_law_5.all (am_oki am_B am_Lb am_sites am_nests) = true := by decide +kernel
theorem kL_6 : pL_law_6.all (am_oki am_B am_Lb am_sites am_nests) = true := by decide +kernel
theorem kL_7 : pL_law_7.all (am_oki am_B am_Lb am_sites am_nests) = true := by decide +kernel
