theorem kL_16 : pL_law_16.all (am_oki am_B am_Lb am_sites am_nests) = true := by decide +kernel
theorem kL_17 : pL_law_17.all (am_oki am_B am_Lb am_sites am_nests) = true := by decide +kernel
theorem kL_18 : pL_law_18.all (am_oki am_B am_Lb am_sites am_nests) = true := by decide +kernel
theorem kL_19 : pL_law_19.all (am_oki am_B am_Lb am_sites am_nests) = true := by decide +kernel
theorem kL_20 : pL_law_20.all (am_oki am_B am_Lb am_sites am_nests) = true := by decide +kernel
theorem kL_21 : pL_law_21.all (am_oki am_B am_Lb am_sites am_nests) = true := by decide +kernel
theorem kL_22 : pL_law_22.all (am_oki am_B am_Lb am_sites am_nests) = true := by decide +kernel
