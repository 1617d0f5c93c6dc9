theorem kL_8 : pL_law_8.all (am_oki am_B am_Lb am_sites am_nests) = true := by decide +kernel
theorem kL_9 : pL_law_9.all (am_oki am_B am_Lb am_sites am_nests) = true := by decide +kernel
theorem kL_10 : pL_law_10.all (am_oki am_B am_Lb am_sites am_nests) = true := by decide +kernel
theorem kL_11 : pL_law_11.all (am_oki am_B am_Lb am_sites am_nests) = true := by decide +kernel
theorem kL_12 : pL_law_12.all (am_oki am_B am_Lb am_sites am_nests) = true := by decide +kernel
theorem kL_13 : pL_law_13.all (am_oki am_B am_Lb am_sites am_nests) = true := by decide +kernel
theorem kL_14 : pL_law_14.all (am_oki am_B am_Lb am_sites am_nests) = true := by decide +kernel
theorem kL_15 : pL_law_15.all (am_oki am_B am_Lb am_sites am_nests) = true := by decide +kernel
