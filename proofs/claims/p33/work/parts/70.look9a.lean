theorem kL_0 : pL_law_0.all (am_oki am_B am_Lb am_sites am_nests) = true := eLk_ok (s := 0) (by decide +kernel)
theorem kL_1 : pL_law_1.all (am_oki am_B am_Lb am_sites am_nests) = true := eLk_ok (s := 296) (by decide +kernel)
theorem kL_2 : pL_law_2.all (am_oki am_B am_Lb am_sites am_nests) = true := eLk_ok (s := 436) (by decide +kernel)
