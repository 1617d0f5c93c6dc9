set_option maxRecDepth 100000 in
theorem kL_law : pL_law.all (am_oki am_B am_Lb am_sites am_nests) = true := by decide +kernel

