theorem kL_6 : pL_law_6.all (am_oki am_B am_Lb am_sites am_nests) = true := eLk_ok (s := 992) (by decide +kernel)
theorem kL_7 : pL_law_7.all (am_oki am_B am_Lb am_sites am_nests) = true := eLk_ok (s := 1142) (by decide +kernel)
theorem kL_8 : pL_law_8.all (am_oki am_B am_Lb am_sites am_nests) = true := eLk_ok (s := 1292) (by decide +kernel)
