theorem kL_3 : pL_law_3.all (am_oki am_B am_Lb am_sites am_nests) = true := eLk_ok (s := 574) (by decide +kernel)
theorem kL_4 : pL_law_4.all (am_oki am_B am_Lb am_sites am_nests) = true := eLk_ok (s := 710) (by decide +kernel)
theorem kL_5 : pL_law_5.all (am_oki am_B am_Lb am_sites am_nests) = true := eLk_ok (s := 848) (by decide +kernel)
