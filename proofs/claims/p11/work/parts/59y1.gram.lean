set_option maxHeartbeats 1500000 in
set_option maxRecDepth 20000 in
theorem lv_X6_every_g (L : Nat) (xs : Nat → Int32) (sio : Option Nat) (d : Nat) (dt : Nat → Nat → Int) (hI : InvC dt) (b : Nat → Int) (n t i : Nat) (hbb : mB (dt 85) (dt 79 12) = b) (hnn : dt 79 12 = (n : Int)) (hz : KZ (KF 1 b n) t) (ht : t ≤ 500) (hc : CUR 1 b n dt i) (hi : i ≤ t) (hn5 : n ≤ 500) (j : Nat) (IH_X6_one : ∀ (L : Nat) (xs : Nat → Int32) (sio : Option Nat) (d : Nat) (dt : Nat → Nat → Int) (hI : InvC dt) (b : Nat → Int) (n t i : Nat) (hbb : mB (dt 85) (dt 79 12) = b) (hnn : dt 79 12 = (n : Int)) (hz : KZ (KF 1 b n) t) (ht : t ≤ 500) (hc : CUR 1 b n dt i) (hi : i ≤ t) (hn5 : n ≤ 500) (h_p0 : dt 79 9 = 1) (h_p1 : dt 79 11 ≤ dt 79 15) (h_p2 : dt 79 20 + ((j : Nat) : Int) = 8) (h_p3 : 3 * j ≤ d), GO (am_XX L xs sio) (d + 10) 170 0 [some (.inr (.inr (some 79))), none] [] (SH, dt) (fun r w2 => ∃ dt2 : Nat → Nat → Int, w2 = (SH, dt2) ∧ InvC dt2 ∧ Fr [79, 84] dt dt2 ∧ ((r = some (.inl 0) ∧ (RSX 1 b n i dt2 0 ((gC (KF 1 b n) (VF b n) j) i)) ∧ (dt2 79 2 = dt 79 2) ∧ (dt2 79 9 = dt 79 9) ∧ (dt2 79 10 = dt 79 10) ∧ (dt2 79 12 = dt 79 12)) ∨ (r = some (.inl 1) ∧ (RSX 1 b n i dt2 1 ((gC (KF 1 b n) (VF b n) j) i)) ∧ (dt 79 15 + dt2 79 11 ≤ dt2 79 15 + dt 79 11) ∧ (dt 79 11 + 1 ≤ dt2 79 11) ∧ (dt2 79 15 ≤ 500) ∧ (dt2 79 2 = dt 79 2) ∧ (dt2 79 9 = dt 79 9) ∧ (dt2 79 10 = dt 79 10) ∧ (dt2 79 12 = dt 79 12) ∧ (dt2 79 17 = dt 79 17) ∧ (dt2 79 20 = dt 79 20)))))   (h_p0 : dt 79 9 = 1) (h_p1 : dt 79 11 ≤ dt 79 15) (h_p2 : dt 79 20 + ((j : Nat) : Int) = 8) (h_p3 : 3 * j ≤ d) : GO (am_XX L xs sio) (d + 11) 169 0 [some (.inr (.inr (some 79)))] [] (SH, dt) (fun r w2 => ∃ dt2 : Nat → Nat → Int, w2 = (SH, dt2) ∧ InvC dt2 ∧ Fr [79, 84] dt dt2 ∧ ((r = some (.inl 0) ∧ (RSX 1 b n i dt2 0 ((gEv (KF 1 b n) (VF b n) j) i)) ∧ (dt2 79 2 = dt 79 2) ∧ (dt2 79 9 = dt 79 9) ∧ (dt2 79 10 = dt 79 10) ∧ (dt2 79 12 = dt 79 12)) ∨ (r = some (.inl 1) ∧ (RSX 1 b n i dt2 1 ((gEv (KF 1 b n) (VF b n) j) i)) ∧ (dt 79 15 + dt2 79 11 ≤ dt2 79 15 + dt 79 11) ∧ (dt 79 11 + 1 ≤ dt2 79 11) ∧ (dt2 79 15 ≤ 500) ∧ (dt2 79 2 = dt 79 2) ∧ (dt2 79 9 = dt 79 9) ∧ (dt2 79 10 = dt 79 10) ∧ (dt2 79 12 = dt 79 12) ∧ (dt2 79 17 = dt 79 17) ∧ (dt2 79 20 = dt 79 20)))) := by
  have hF : Fr [79, 84] dt dt := Fr_refl
  have r1 : 0 ≤ dt 79 15 ∧ dt 79 15 ≤ 500 := InvC_get hI 79 15 rfl rfl
  have r2 : 0 ≤ dt 79 11 ∧ dt 79 11 ≤ 510 := InvC_get hI 79 11 rfl rfl
  have r3 : 0 ≤ dt 79 10 ∧ dt 79 10 ≤ 24 := InvC_get hI 79 10 rfl rfl
  have r4 : 0 ≤ dt 79 20 ∧ dt 79 20 ≤ 8 := InvC_get hI 79 20 rfl rfl
  have cr0 := CUR_R hc (.inr rfl)
  have cb0 := CUR_b hc
  have cv0 := CUR_v hc
  have ck0 := KZ_lt (i := i) hz
  have c10 := hc.1
  refine go_toq PM169 (k := 1) (pc' := 1) (L' := [some (.inr (.inr (some 79)))]) (st' := [.inr (.inr (some 79))]) (w' := (SH, dt)) rfl ?_
  refine go_callq PM169 PM170 (Q' := _) rfl rfl rfl rfl (IH_X6_one L xs sio (d + 0) dt hI b n t i (by first | exact hbb | (rw [show dt 85 = dt 85 from funext (hF 85 (by decide)), show dt 79 12 = dt 79 12 by omega]; exact hbb)) (by omega) hz ht hc hi hn5  (by first | exact True.intro | rfl | omega | trivial) (by first | exact True.intro | rfl | omega | trivial) (by first | exact True.intro | rfl | omega | trivial) (by first | exact True.intro | rfl | omega | trivial)) ?_
  rintro _ _ ⟨dt6, rfl, hI7, hF8, h5⟩
  refine ⟨rfl, ?_⟩
  have hF9 : Fr [79, 84] dt dt6 := Fr_tr hF hF8 (by decide)
  rcases h5 with ⟨rfl, h5⟩ | ⟨rfl, h5⟩
  · skip
    obtain ⟨h5_0, h5_1, h5_2, h5_3, h5_4⟩ := h5
    have fl10 := RSX_0 h5_0 rfl
    have fe11 : (gEv (KF 1 b n) (VF b n) j) i = (gC (KF 1 b n) (VF b n) j) i := (rfl : (gEv (KF 1 b n) (VF b n) j) i = (gEv (KF 1 b n) (VF b n) j) i).trans ((show (gEv (KF 1 b n) (VF b n) j) i = gB ((gC (KF 1 b n) (VF b n) j) i) (gN (KF 1 b n) (gC (KF 1 b n) (VF b n) j) 600) by rfl).trans (gB_no fl10.1))
    refine go_retq PM169 (k := 2) (r := some (.inl 0)) (w1 := (SH, dt6)) rfl ?_
    exact ⟨dt6, rfl, hI7, hF9, (Or.inl ⟨rfl, ⟨by exact RSX_f fe11 fl10 (by omega) (by omega), by first | exact True.intro | rfl | omega | trivial, by first | exact True.intro | rfl | omega | trivial, by first | exact True.intro | rfl | omega | trivial, by first | exact True.intro | rfl | omega | trivial⟩⟩)⟩
  · skip
    obtain ⟨h5_0, h5_1, h5_2, h5_3, h5_4, h5_5, h5_6, h5_7, h5_8, h5_9⟩ := h5
    obtain ⟨j12, ej13, hc14⟩ := RSX_1 h5_0 (by decide)
    have hp15 : (gEv (KF 1 b n) (VF b n) j) i = (gN (KF 1 b n) (gC (KF 1 b n) (VF b n) j) 600) j12 := (rfl : (gEv (KF 1 b n) (VF b n) j) i = (gEv (KF 1 b n) (VF b n) j) i).trans ((show (gEv (KF 1 b n) (VF b n) j) i = gB ((gC (KF 1 b n) (VF b n) j) i) (gN (KF 1 b n) (gC (KF 1 b n) (VF b n) j) 600) by rfl).trans (by rw [ej13]; exact gB_0))
    have hi16 : j12 ≤ t := by have z := (fun (h : KZ (KF 1 b n) t) => gC_M (K := (KF 1 b n)) (V := (VF b n)) h j i) hz; rw [ej13] at z; have y := z rfl; simp only at y; omega
    clear cr0 cb0 cv0 ck0
    have cr17 := CUR_R hc14 (.inr rfl)
    have cb18 := CUR_b hc14
    have cv19 := CUR_v hc14
    have ck20 := KZ_lt (i := j12) hz
    have c121 := (hc14).1
    have ci22 := hi16
    refine go_toq PM169 (k := 1) (pc' := 9) (L' := [some (.inr (.inr (some 79)))]) (st' := []) (w' := (SH, dt6)) rfl ?_
    have loop79 : ∀ (k_ : Nat) (dt66 : Nat → Nat → Int) (hI67 : InvC dt66) (hF68 : Fr [79, 84] dt dt66) (i69 : ∃ q : Nat, (gEv (KF 1 b n) (VF b n) j) i = (gN (KF 1 b n) (gC (KF 1 b n) (VF b n) j) 600) q ∧ CUR 1 b n dt66 q ∧ q ≤ t) (i70 : dt 79 15 + dt66 79 11 ≤ dt66 79 15 + dt 79 11) (i71 : dt 79 11 + 1 ≤ dt66 79 11) (i72 : dt66 79 15 ≤ 500) (i73 : dt66 79 2 = dt 79 2) (i74 : dt66 79 9 = dt 79 9) (i75 : dt66 79 10 = dt 79 10) (i76 : dt66 79 12 = dt 79 12) (i77 : dt66 79 17 = dt 79 17) (i78 : dt66 79 20 = dt 79 20), (502 - dt66 79 15).toNat < k_ → GO (am_XX L xs sio) (d + 11) 169 9 [some (.inr (.inr (some 79)))] [] (SH, dt66) (fun r w2 => ∃ dt2 : Nat → Nat → Int, w2 = (SH, dt2) ∧ InvC dt2 ∧ Fr [79, 84] dt dt2 ∧ ((r = some (.inl 0) ∧ (RSX 1 b n i dt2 0 ((gEv (KF 1 b n) (VF b n) j) i)) ∧ (dt2 79 2 = dt 79 2) ∧ (dt2 79 9 = dt 79 9) ∧ (dt2 79 10 = dt 79 10) ∧ (dt2 79 12 = dt 79 12)) ∨ (r = some (.inl 1) ∧ (RSX 1 b n i dt2 1 ((gEv (KF 1 b n) (VF b n) j) i)) ∧ (dt 79 15 + dt2 79 11 ≤ dt2 79 15 + dt 79 11) ∧ (dt 79 11 + 1 ≤ dt2 79 11) ∧ (dt2 79 15 ≤ 500) ∧ (dt2 79 2 = dt 79 2) ∧ (dt2 79 9 = dt 79 9) ∧ (dt2 79 10 = dt 79 10) ∧ (dt2 79 12 = dt 79 12) ∧ (dt2 79 17 = dt 79 17) ∧ (dt2 79 20 = dt 79 20)))) := by
      intro k_
      induction k_ with
      | zero => intro dt66 hI67 hF68 i69 i70 i71 i72 i73 i74 i75 i76 i77 i78 hm; exact absurd hm (Nat.not_lt_zero _)
      | succ k_ ih_loop79 =>
        intro dt66 hI67 hF68 i69 i70 i71 i72 i73 i74 i75 i76 i77 i78 hm
        clear cr17 cb18 cv19 ck20
        obtain ⟨gq, hpq, hcq, hiq⟩ := i69
        have crq := CUR_R hcq (.inr rfl)
        have cbq := CUR_b hcq
        have cvq := CUR_v hcq
        have ckq := KZ_lt (i := gq) hz
        have c1q := hcq.1
        have r80 : (-2147483648) ≤ dt66 79 14 ∧ dt66 79 14 ≤ 2147483647 := InvC_get hI67 79 14 rfl rfl
        refine go_ifq PM169 (k := 3) (p1 := 40) (p2 := 17) (L' := [some (.inr (.inr (some 79)))]) (st' := []) (w' := (SH, dt66)) rfl (c_ne (a := dt66 79 14) (b := 5) (by first | exact bnd r80 (by decide) (by decide) | exact ⟨by omega, by omega⟩) ⟨by decide, by decide⟩) (fun c81 => ?_) (fun c81 => ?_)
        · skip
          refine go_retq PM169 (k := 1) (r := some (.inl 1)) (w1 := (SH, dt66)) rfl ?_
          exact ⟨dt66, rfl, hI67, hF68, (Or.inr ⟨rfl, ⟨by exact RSX_ok (hpq.trans (by show gN _ _ 600 gq = _; rw [gN_u (gC_M hz _) (by omega) (by omega), if_neg (by omega)])) hcq, by first | exact True.intro | rfl | omega | trivial, by first | exact True.intro | rfl | omega | trivial, by exact (InvC_get (by assumption) 79 15 rfl rfl).2, by first | exact True.intro | rfl | omega | trivial, by first | exact True.intro | rfl | omega | trivial, by first | exact True.intro | rfl | omega | trivial, by first | exact True.intro | rfl | omega | trivial, by first | exact True.intro | rfl | omega | trivial, by first | exact True.intro | rfl | omega | trivial⟩⟩)⟩
        · skip
          refine go_toq PM169 (k := 1) (pc' := 18) (L' := [some (.inr (.inr (some 79)))]) (st' := [.inr (.inr (some 79))]) (w' := (SH, dt66)) rfl ?_
          refine go_callq PM169 PM159 (Q' := _) rfl rfl rfl rfl (sp_X6_next0_p1 L xs sio (d + 4) dt66 hI67   (by first | exact True.intro | rfl | omega | trivial) (by first | exact True.intro | rfl | omega | trivial)) ?_
          rintro _ _ ⟨dt83, rfl, hI84, hF85, h82⟩
          refine ⟨rfl, ?_⟩
          have hF86 : Fr [79, 84] dt dt83 := Fr_tr hF68 hF85 (by decide)
          rcases h82 with ⟨rfl, h82⟩
          obtain ⟨h82_0, h82_1, h82_2, h82_3, h82_4, h82_5, h82_6, h82_7, h82_8⟩ := h82
          have hq87 := h82_0
          rw [show dt66 85 = dt 85 from funext (hF68 85 (by decide)), show dt66 79 12 = dt 79 12 by omega, hbb, show (dt 79 12).toNat = n by omega] at hq87
          have hc88 : CUR 1 b n dt83 (gq + 1) := CUR_n hcq hq87
          have hi89 : gq + 1 ≤ t := by omega
          have av90 : dt66 79 15 + 1 ≤ dt66 79 13 := by omega
          have hp91 : (gEv (KF 1 b n) (VF b n) j) i = (fun i => gB (gC (KF 1 b n) (VF b n) j i) (gN (KF 1 b n) (gC (KF 1 b n) (VF b n) j) 600)) (gq + 1) := hpq.trans (by show gN _ _ 600 gq = _; rw [gN_u (gC_M hz _) (by omega) (by omega)]; first | (rw [if_pos (by omega)]; done) | (rw [if_pos (by omega)]; rfl))
          clear crq cbq cvq ckq
          have cr92 := CUR_R hc88 (.inr rfl)
          have cb93 := CUR_b hc88
          have cv94 := CUR_v hc88
          have ck95 := KZ_lt (i := (gq + 1)) hz
          have c196 := (hc88).1
          have ci97 := hi89
          refine go_toq PM169 (k := 1) (pc' := 22) (L' := [some (.inr (.inr (some 79)))]) (st' := [.inr (.inr (some 79))]) (w' := (SH, dt83)) rfl ?_
          refine go_callq PM169 PM170 (Q' := _) rfl rfl rfl rfl (IH_X6_one L xs sio (d + 0) dt83 hI84 b n t (gq + 1) (by first | exact hbb | (rw [show dt83 85 = dt 85 from funext (hF86 85 (by decide)), show dt83 79 12 = dt 79 12 by omega]; exact hbb)) (by omega) hz ht hc88 hi89 hn5  (by first | exact True.intro | rfl | omega | trivial) (by first | exact True.intro | rfl | omega | trivial) (by first | exact True.intro | rfl | omega | trivial) (by first | exact True.intro | rfl | omega | trivial)) ?_
          rintro _ _ ⟨dt99, rfl, hI100, hF101, h98⟩
          refine ⟨rfl, ?_⟩
          have hF102 : Fr [79, 84] dt dt99 := Fr_tr hF86 hF101 (by decide)
          rcases h98 with ⟨rfl, h98⟩ | ⟨rfl, h98⟩
          · skip
            obtain ⟨h98_0, h98_1, h98_2, h98_3, h98_4⟩ := h98
            have fl103 := RSX_0 h98_0 rfl
            have fe104 : (gEv (KF 1 b n) (VF b n) j) i = (gC (KF 1 b n) (VF b n) j) (gq + 1) := hp91.trans ((show (fun i => gB (gC (KF 1 b n) (VF b n) j i) (gN (KF 1 b n) (gC (KF 1 b n) (VF b n) j) 600)) (gq + 1) = gB ((gC (KF 1 b n) (VF b n) j) (gq + 1)) (gN (KF 1 b n) (gC (KF 1 b n) (VF b n) j) 600) by rfl).trans (gB_no fl103.1))
            refine go_retq PM169 (k := 2) (r := some (.inl 0)) (w1 := (SH, dt99)) rfl ?_
            exact ⟨dt99, rfl, hI100, hF102, (Or.inl ⟨rfl, ⟨by exact RSX_f fe104 fl103 (by omega) (by omega), by first | exact True.intro | rfl | omega | trivial, by first | exact True.intro | rfl | omega | trivial, by first | exact True.intro | rfl | omega | trivial, by first | exact True.intro | rfl | omega | trivial⟩⟩)⟩
          · skip
            obtain ⟨h98_0, h98_1, h98_2, h98_3, h98_4, h98_5, h98_6, h98_7, h98_8, h98_9⟩ := h98
            obtain ⟨j105, ej106, hc107⟩ := RSX_1 h98_0 (by decide)
            have hp108 : (gEv (KF 1 b n) (VF b n) j) i = (gN (KF 1 b n) (gC (KF 1 b n) (VF b n) j) 600) j105 := hp91.trans ((show (fun i => gB (gC (KF 1 b n) (VF b n) j i) (gN (KF 1 b n) (gC (KF 1 b n) (VF b n) j) 600)) (gq + 1) = gB ((gC (KF 1 b n) (VF b n) j) (gq + 1)) (gN (KF 1 b n) (gC (KF 1 b n) (VF b n) j) 600) by rfl).trans (by rw [ej106]; exact gB_0))
            have hi109 : j105 ≤ t := by have z := (fun (h : KZ (KF 1 b n) t) => gC_M (K := (KF 1 b n)) (V := (VF b n)) h j (gq + 1)) hz; rw [ej106] at z; have y := z rfl; simp only at y; omega
            clear cr92 cb93 cv94 ck95
            have cr110 := CUR_R hc107 (.inr rfl)
            have cb111 := CUR_b hc107
            have cv112 := CUR_v hc107
            have ck113 := KZ_lt (i := j105) hz
            have c1114 := (hc107).1
            have ci115 := hi109
            refine go_toq PM169 (k := 4) (pc' := 34) (L' := [some (.inr (.inr (some 79)))]) (st' := [.inl 0, .inl 15, .inr (.inr (some 79))]) (w' := (SH, dt99)) rfl ?_
            refine go_callq PM169 PM163 (Q' := _) rfl rfl rfl rfl (sp_X6_lay_g L xs sio (d + 10) dt99 hI100  15 ⟨by decide, by decide⟩ 0 ⟨by decide, by decide⟩ (by first | exact True.intro | rfl | omega | trivial)) ?_
            rintro _ _ ⟨dt117, rfl, hI118, hF119, h116⟩
            refine ⟨rfl, ?_⟩
            have hF120 : Fr [79, 84] dt dt117 := Fr_tr hF102 hF119 (by decide)
            rcases h116 with ⟨rfl, h116⟩
            obtain ⟨h116_0, h116_1, h116_2, h116_3, h116_4, h116_5, h116_6, h116_7, h116_8, h116_9, h116_10⟩ := h116
            have hc121 : CUR 1 b n dt117 j105 := CUR_sm hc107 (by omega) (by omega) (by omega) (by omega)
            refine go_toq PM169 (k := 1) (pc' := 9) (L' := [some (.inr (.inr (some 79)))]) (st' := []) (w' := (SH, dt117)) rfl ?_
            exact GO.le (ih_loop79 dt117 hI118 hF120 (by exact ⟨_, hp108, hc121, hi109⟩) (by first | omega | exact ⟨_, hp108, hc121, hi109⟩) (by first | omega | exact ⟨_, hp108, hc121, hi109⟩) (by first | omega | exact ⟨_, hp108, hc121, hi109⟩) (by first | omega | exact ⟨_, hp108, hc121, hi109⟩) (by first | omega | exact ⟨_, hp108, hc121, hi109⟩) (by first | omega | exact ⟨_, hp108, hc121, hi109⟩) (by first | omega | exact ⟨_, hp108, hc121, hi109⟩) (by first | omega | exact ⟨_, hp108, hc121, hi109⟩) (by first | omega | exact ⟨_, hp108, hc121, hi109⟩) (by omega)) ⟨.inl rfl, trivial⟩
    exact GO.le (loop79 _ dt6 hI7 hF9 (by exact ⟨_, hp15, hc14, hi16⟩) (by first | omega | exact ⟨_, hp15, hc14, hi16⟩) (by first | omega | exact ⟨_, hp15, hc14, hi16⟩) (by first | omega | exact ⟨_, hp15, hc14, hi16⟩) (by first | omega | exact ⟨_, hp15, hc14, hi16⟩) (by first | omega | exact ⟨_, hp15, hc14, hi16⟩) (by first | omega | exact ⟨_, hp15, hc14, hi16⟩) (by first | omega | exact ⟨_, hp15, hc14, hi16⟩) (by first | omega | exact ⟨_, hp15, hc14, hi16⟩) (by first | omega | exact ⟨_, hp15, hc14, hi16⟩) (Nat.lt_succ_self _)) ⟨.inl rfl, trivial⟩
set_option maxHeartbeats 1500000 in
set_option maxRecDepth 20000 in
theorem lv_X6_any_g (L : Nat) (xs : Nat → Int32) (sio : Option Nat) (d : Nat) (dt : Nat → Nat → Int) (hI : InvC dt) (b : Nat → Int) (n t i : Nat) (hbb : mB (dt 85) (dt 79 12) = b) (hnn : dt 79 12 = (n : Int)) (hz : KZ (KF 1 b n) t) (ht : t ≤ 500) (hc : CUR 1 b n dt i) (hi : i ≤ t) (hn5 : n ≤ 500) (j : Nat) (IH_X6_every : ∀ (L : Nat) (xs : Nat → Int32) (sio : Option Nat) (d : Nat) (dt : Nat → Nat → Int) (hI : InvC dt) (b : Nat → Int) (n t i : Nat) (hbb : mB (dt 85) (dt 79 12) = b) (hnn : dt 79 12 = (n : Int)) (hz : KZ (KF 1 b n) t) (ht : t ≤ 500) (hc : CUR 1 b n dt i) (hi : i ≤ t) (hn5 : n ≤ 500) (h_p0 : dt 79 9 = 1) (h_p1 : dt 79 11 ≤ dt 79 15) (h_p2 : dt 79 20 + ((j : Nat) : Int) = 8) (h_p3 : 3 * j ≤ d), GO (am_XX L xs sio) (d + 11) 169 0 [some (.inr (.inr (some 79)))] [] (SH, dt) (fun r w2 => ∃ dt2 : Nat → Nat → Int, w2 = (SH, dt2) ∧ InvC dt2 ∧ Fr [79, 84] dt dt2 ∧ ((r = some (.inl 0) ∧ (RSX 1 b n i dt2 0 ((gEv (KF 1 b n) (VF b n) j) i)) ∧ (dt2 79 2 = dt 79 2) ∧ (dt2 79 9 = dt 79 9) ∧ (dt2 79 10 = dt 79 10) ∧ (dt2 79 12 = dt 79 12)) ∨ (r = some (.inl 1) ∧ (RSX 1 b n i dt2 1 ((gEv (KF 1 b n) (VF b n) j) i)) ∧ (dt 79 15 + dt2 79 11 ≤ dt2 79 15 + dt 79 11) ∧ (dt 79 11 + 1 ≤ dt2 79 11) ∧ (dt2 79 15 ≤ 500) ∧ (dt2 79 2 = dt 79 2) ∧ (dt2 79 9 = dt 79 9) ∧ (dt2 79 10 = dt 79 10) ∧ (dt2 79 12 = dt 79 12) ∧ (dt2 79 17 = dt 79 17) ∧ (dt2 79 20 = dt 79 20)))))   (h_p0 : dt 79 9 = 1) (h_p1 : dt 79 11 ≤ dt 79 15) (h_p2 : dt 79 20 + ((j : Nat) : Int) = 8) (h_p3 : 3 * j ≤ d) : GO (am_XX L xs sio) (d + 12) 168 0 [some (.inr (.inr (some 79)))] [] (SH, dt) (fun r w2 => ∃ dt2 : Nat → Nat → Int, w2 = (SH, dt2) ∧ InvC dt2 ∧ Fr [79, 84] dt dt2 ∧ ((r = some (.inl 0) ∧ (RSX 1 b n i dt2 0 ((gB_ (KF 1 b n) (VF b n) j) i)) ∧ (dt2 79 2 = dt 79 2) ∧ (dt2 79 9 = dt 79 9) ∧ (dt2 79 10 = dt 79 10) ∧ (dt2 79 12 = dt 79 12)) ∨ (r = some (.inl 1) ∧ (RSX 1 b n i dt2 1 ((gB_ (KF 1 b n) (VF b n) j) i)) ∧ (dt 79 15 + dt2 79 11 ≤ dt2 79 15 + dt 79 11) ∧ (dt 79 11 + 1 ≤ dt2 79 11) ∧ (dt2 79 15 ≤ 500) ∧ (dt2 79 2 = dt 79 2) ∧ (dt2 79 9 = dt 79 9) ∧ (dt2 79 10 = dt 79 10) ∧ (dt2 79 12 = dt 79 12) ∧ (dt2 79 17 = dt 79 17) ∧ (dt2 79 20 = dt 79 20)))) := by
  have hF : Fr [79, 84] dt dt := Fr_refl
  have r1 : 0 ≤ dt 79 15 ∧ dt 79 15 ≤ 500 := InvC_get hI 79 15 rfl rfl
  have r2 : 0 ≤ dt 79 11 ∧ dt 79 11 ≤ 510 := InvC_get hI 79 11 rfl rfl
  have r3 : 0 ≤ dt 79 10 ∧ dt 79 10 ≤ 24 := InvC_get hI 79 10 rfl rfl
  have r4 : 0 ≤ dt 79 20 ∧ dt 79 20 ≤ 8 := InvC_get hI 79 20 rfl rfl
  have cr0 := CUR_R hc (.inr rfl)
  have cb0 := CUR_b hc
  have cv0 := CUR_v hc
  have ck0 := KZ_lt (i := i) hz
  have c10 := hc.1
  refine go_toq PM168 (k := 1) (pc' := 1) (L' := [some (.inr (.inr (some 79)))]) (st' := [.inr (.inr (some 79))]) (w' := (SH, dt)) rfl ?_
  refine go_callq PM168 PM169 (Q' := _) rfl rfl rfl rfl (IH_X6_every L xs sio (d + 0) dt hI b n t i (by first | exact hbb | (rw [show dt 85 = dt 85 from funext (hF 85 (by decide)), show dt 79 12 = dt 79 12 by omega]; exact hbb)) (by omega) hz ht hc hi hn5  (by first | exact True.intro | rfl | omega | trivial) (by first | exact True.intro | rfl | omega | trivial) (by first | exact True.intro | rfl | omega | trivial) (by first | exact True.intro | rfl | omega | trivial)) ?_
  rintro _ _ ⟨dt6, rfl, hI7, hF8, h5⟩
  refine ⟨rfl, ?_⟩
  have hF9 : Fr [79, 84] dt dt6 := Fr_tr hF hF8 (by decide)
  rcases h5 with ⟨rfl, h5⟩ | ⟨rfl, h5⟩
  · skip
    obtain ⟨h5_0, h5_1, h5_2, h5_3, h5_4⟩ := h5
    have fl10 := RSX_0 h5_0 rfl
    have fe11 : (gB_ (KF 1 b n) (VF b n) j) i = (gEv (KF 1 b n) (VF b n) j) i := (rfl : (gB_ (KF 1 b n) (VF b n) j) i = (gB_ (KF 1 b n) (VF b n) j) i).trans ((show (gB_ (KF 1 b n) (VF b n) j) i = gB ((gEv (KF 1 b n) (VF b n) j) i) (gO (KF 1 b n) (gC (KF 1 b n) (VF b n) j) 600) by exact gB_NO' hz (by omega)).trans (gB_no fl10.1))
    refine go_retq PM168 (k := 2) (r := some (.inl 0)) (w1 := (SH, dt6)) rfl ?_
    exact ⟨dt6, rfl, hI7, hF9, (Or.inl ⟨rfl, ⟨by exact RSX_f fe11 fl10 (by omega) (by omega), by first | exact True.intro | rfl | omega | trivial, by first | exact True.intro | rfl | omega | trivial, by first | exact True.intro | rfl | omega | trivial, by first | exact True.intro | rfl | omega | trivial⟩⟩)⟩
  · skip
    obtain ⟨h5_0, h5_1, h5_2, h5_3, h5_4, h5_5, h5_6, h5_7, h5_8, h5_9⟩ := h5
    obtain ⟨j12, ej13, hc14⟩ := RSX_1 h5_0 (by decide)
    have hp15 : (gB_ (KF 1 b n) (VF b n) j) i = (gO (KF 1 b n) (gC (KF 1 b n) (VF b n) j) 600) j12 := (rfl : (gB_ (KF 1 b n) (VF b n) j) i = (gB_ (KF 1 b n) (VF b n) j) i).trans ((show (gB_ (KF 1 b n) (VF b n) j) i = gB ((gEv (KF 1 b n) (VF b n) j) i) (gO (KF 1 b n) (gC (KF 1 b n) (VF b n) j) 600) by exact gB_NO' hz (by omega)).trans (by rw [ej13]; exact gB_0))
    have hi16 : j12 ≤ t := by have z := gEv_M (K := (KF 1 b n)) (V := (VF b n)) (d := j) (i := i) hz; rw [ej13] at z; have y := z rfl; simp only at y; omega
    clear cr0 cb0 cv0 ck0
    have cr17 := CUR_R hc14 (.inr rfl)
    have cb18 := CUR_b hc14
    have cv19 := CUR_v hc14
    have ck20 := KZ_lt (i := j12) hz
    have c121 := (hc14).1
    have ci22 := hi16
    refine go_toq PM168 (k := 1) (pc' := 9) (L' := [some (.inr (.inr (some 79)))]) (st' := []) (w' := (SH, dt6)) rfl ?_
    have loop79 : ∀ (k_ : Nat) (dt66 : Nat → Nat → Int) (hI67 : InvC dt66) (hF68 : Fr [79, 84] dt dt66) (i69 : ∃ q : Nat, (gB_ (KF 1 b n) (VF b n) j) i = (gO (KF 1 b n) (gC (KF 1 b n) (VF b n) j) 600) q ∧ CUR 1 b n dt66 q ∧ q ≤ t) (i70 : dt 79 15 + dt66 79 11 ≤ dt66 79 15 + dt 79 11) (i71 : dt 79 11 + 1 ≤ dt66 79 11) (i72 : dt66 79 15 ≤ 500) (i73 : dt66 79 2 = dt 79 2) (i74 : dt66 79 9 = dt 79 9) (i75 : dt66 79 10 = dt 79 10) (i76 : dt66 79 12 = dt 79 12) (i77 : dt66 79 17 = dt 79 17) (i78 : dt66 79 20 = dt 79 20), (502 - dt66 79 15).toNat < k_ → GO (am_XX L xs sio) (d + 12) 168 9 [some (.inr (.inr (some 79)))] [] (SH, dt66) (fun r w2 => ∃ dt2 : Nat → Nat → Int, w2 = (SH, dt2) ∧ InvC dt2 ∧ Fr [79, 84] dt dt2 ∧ ((r = some (.inl 0) ∧ (RSX 1 b n i dt2 0 ((gB_ (KF 1 b n) (VF b n) j) i)) ∧ (dt2 79 2 = dt 79 2) ∧ (dt2 79 9 = dt 79 9) ∧ (dt2 79 10 = dt 79 10) ∧ (dt2 79 12 = dt 79 12)) ∨ (r = some (.inl 1) ∧ (RSX 1 b n i dt2 1 ((gB_ (KF 1 b n) (VF b n) j) i)) ∧ (dt 79 15 + dt2 79 11 ≤ dt2 79 15 + dt 79 11) ∧ (dt 79 11 + 1 ≤ dt2 79 11) ∧ (dt2 79 15 ≤ 500) ∧ (dt2 79 2 = dt 79 2) ∧ (dt2 79 9 = dt 79 9) ∧ (dt2 79 10 = dt 79 10) ∧ (dt2 79 12 = dt 79 12) ∧ (dt2 79 17 = dt 79 17) ∧ (dt2 79 20 = dt 79 20)))) := by
      intro k_
      induction k_ with
      | zero => intro dt66 hI67 hF68 i69 i70 i71 i72 i73 i74 i75 i76 i77 i78 hm; exact absurd hm (Nat.not_lt_zero _)
      | succ k_ ih_loop79 =>
        intro dt66 hI67 hF68 i69 i70 i71 i72 i73 i74 i75 i76 i77 i78 hm
        clear cr17 cb18 cv19 ck20
        obtain ⟨gq, hpq, hcq, hiq⟩ := i69
        have crq := CUR_R hcq (.inr rfl)
        have cbq := CUR_b hcq
        have cvq := CUR_v hcq
        have ckq := KZ_lt (i := gq) hz
        have c1q := hcq.1
        have r80 : (-2147483648) ≤ dt66 79 14 ∧ dt66 79 14 ≤ 2147483647 := InvC_get hI67 79 14 rfl rfl
        refine go_ifq PM168 (k := 3) (p1 := 40) (p2 := 17) (L' := [some (.inr (.inr (some 79)))]) (st' := []) (w' := (SH, dt66)) rfl (c_ne (a := dt66 79 14) (b := 4) (by first | exact bnd r80 (by decide) (by decide) | exact ⟨by omega, by omega⟩) ⟨by decide, by decide⟩) (fun c81 => ?_) (fun c81 => ?_)
        · skip
          refine go_retq PM168 (k := 1) (r := some (.inl 1)) (w1 := (SH, dt66)) rfl ?_
          exact ⟨dt66, rfl, hI67, hF68, (Or.inr ⟨rfl, ⟨by exact RSX_ok (hpq.trans (by show gO _ _ 600 gq = _; rw [gO_u (gC_M hz _) (by omega) (by omega), if_neg (by omega)])) hcq, by first | exact True.intro | rfl | omega | trivial, by first | exact True.intro | rfl | omega | trivial, by exact (InvC_get (by assumption) 79 15 rfl rfl).2, by first | exact True.intro | rfl | omega | trivial, by first | exact True.intro | rfl | omega | trivial, by first | exact True.intro | rfl | omega | trivial, by first | exact True.intro | rfl | omega | trivial, by first | exact True.intro | rfl | omega | trivial, by first | exact True.intro | rfl | omega | trivial⟩⟩)⟩
        · skip
          refine go_toq PM168 (k := 1) (pc' := 18) (L' := [some (.inr (.inr (some 79)))]) (st' := [.inr (.inr (some 79))]) (w' := (SH, dt66)) rfl ?_
          refine go_callq PM168 PM159 (Q' := _) rfl rfl rfl rfl (sp_X6_next0_p1 L xs sio (d + 5) dt66 hI67   (by first | exact True.intro | rfl | omega | trivial) (by first | exact True.intro | rfl | omega | trivial)) ?_
          rintro _ _ ⟨dt83, rfl, hI84, hF85, h82⟩
          refine ⟨rfl, ?_⟩
          have hF86 : Fr [79, 84] dt dt83 := Fr_tr hF68 hF85 (by decide)
          rcases h82 with ⟨rfl, h82⟩
          obtain ⟨h82_0, h82_1, h82_2, h82_3, h82_4, h82_5, h82_6, h82_7, h82_8⟩ := h82
          have hq87 := h82_0
          rw [show dt66 85 = dt 85 from funext (hF68 85 (by decide)), show dt66 79 12 = dt 79 12 by omega, hbb, show (dt 79 12).toNat = n by omega] at hq87
          have hc88 : CUR 1 b n dt83 (gq + 1) := CUR_n hcq hq87
          have hi89 : gq + 1 ≤ t := by omega
          have av90 : dt66 79 15 + 1 ≤ dt66 79 13 := by omega
          have hp91 : (gB_ (KF 1 b n) (VF b n) j) i = (fun i => gB (gEv (KF 1 b n) (VF b n) j i) (gO (KF 1 b n) (gC (KF 1 b n) (VF b n) j) 600)) (gq + 1) := hpq.trans (by show gO _ _ 600 gq = _; rw [gO_u (gC_M hz _) (by omega) (by omega)]; first | (rw [if_pos (by omega)]; done) | (rw [if_pos (by omega)]; rfl))
          clear crq cbq cvq ckq
          have cr92 := CUR_R hc88 (.inr rfl)
          have cb93 := CUR_b hc88
          have cv94 := CUR_v hc88
          have ck95 := KZ_lt (i := (gq + 1)) hz
          have c196 := (hc88).1
          have ci97 := hi89
          refine go_toq PM168 (k := 1) (pc' := 22) (L' := [some (.inr (.inr (some 79)))]) (st' := [.inr (.inr (some 79))]) (w' := (SH, dt83)) rfl ?_
          refine go_callq PM168 PM169 (Q' := _) rfl rfl rfl rfl (IH_X6_every L xs sio (d + 0) dt83 hI84 b n t (gq + 1) (by first | exact hbb | (rw [show dt83 85 = dt 85 from funext (hF86 85 (by decide)), show dt83 79 12 = dt 79 12 by omega]; exact hbb)) (by omega) hz ht hc88 hi89 hn5  (by first | exact True.intro | rfl | omega | trivial) (by first | exact True.intro | rfl | omega | trivial) (by first | exact True.intro | rfl | omega | trivial) (by first | exact True.intro | rfl | omega | trivial)) ?_
          rintro _ _ ⟨dt99, rfl, hI100, hF101, h98⟩
          refine ⟨rfl, ?_⟩
          have hF102 : Fr [79, 84] dt dt99 := Fr_tr hF86 hF101 (by decide)
          rcases h98 with ⟨rfl, h98⟩ | ⟨rfl, h98⟩
          · skip
            obtain ⟨h98_0, h98_1, h98_2, h98_3, h98_4⟩ := h98
            have fl103 := RSX_0 h98_0 rfl
            have fe104 : (gB_ (KF 1 b n) (VF b n) j) i = (gEv (KF 1 b n) (VF b n) j) (gq + 1) := hp91.trans ((show (fun i => gB (gEv (KF 1 b n) (VF b n) j i) (gO (KF 1 b n) (gC (KF 1 b n) (VF b n) j) 600)) (gq + 1) = gB ((gEv (KF 1 b n) (VF b n) j) (gq + 1)) (gO (KF 1 b n) (gC (KF 1 b n) (VF b n) j) 600) by rfl).trans (gB_no fl103.1))
            refine go_retq PM168 (k := 2) (r := some (.inl 0)) (w1 := (SH, dt99)) rfl ?_
            exact ⟨dt99, rfl, hI100, hF102, (Or.inl ⟨rfl, ⟨by exact RSX_f fe104 fl103 (by omega) (by omega), by first | exact True.intro | rfl | omega | trivial, by first | exact True.intro | rfl | omega | trivial, by first | exact True.intro | rfl | omega | trivial, by first | exact True.intro | rfl | omega | trivial⟩⟩)⟩
          · skip
            obtain ⟨h98_0, h98_1, h98_2, h98_3, h98_4, h98_5, h98_6, h98_7, h98_8, h98_9⟩ := h98
            obtain ⟨j105, ej106, hc107⟩ := RSX_1 h98_0 (by decide)
            have hp108 : (gB_ (KF 1 b n) (VF b n) j) i = (gO (KF 1 b n) (gC (KF 1 b n) (VF b n) j) 600) j105 := hp91.trans ((show (fun i => gB (gEv (KF 1 b n) (VF b n) j i) (gO (KF 1 b n) (gC (KF 1 b n) (VF b n) j) 600)) (gq + 1) = gB ((gEv (KF 1 b n) (VF b n) j) (gq + 1)) (gO (KF 1 b n) (gC (KF 1 b n) (VF b n) j) 600) by rfl).trans (by rw [ej106]; exact gB_0))
            have hi109 : j105 ≤ t := by have z := gEv_M (K := (KF 1 b n)) (V := (VF b n)) (d := j) (i := (gq + 1)) hz; rw [ej106] at z; have y := z rfl; simp only at y; omega
            clear cr92 cb93 cv94 ck95
            have cr110 := CUR_R hc107 (.inr rfl)
            have cb111 := CUR_b hc107
            have cv112 := CUR_v hc107
            have ck113 := KZ_lt (i := j105) hz
            have c1114 := (hc107).1
            have ci115 := hi109
            refine go_toq PM168 (k := 4) (pc' := 34) (L' := [some (.inr (.inr (some 79)))]) (st' := [.inl 0, .inl 16, .inr (.inr (some 79))]) (w' := (SH, dt99)) rfl ?_
            refine go_callq PM168 PM163 (Q' := _) rfl rfl rfl rfl (sp_X6_lay_g L xs sio (d + 11) dt99 hI100  16 ⟨by decide, by decide⟩ 0 ⟨by decide, by decide⟩ (by first | exact True.intro | rfl | omega | trivial)) ?_
            rintro _ _ ⟨dt117, rfl, hI118, hF119, h116⟩
            refine ⟨rfl, ?_⟩
            have hF120 : Fr [79, 84] dt dt117 := Fr_tr hF102 hF119 (by decide)
            rcases h116 with ⟨rfl, h116⟩
            obtain ⟨h116_0, h116_1, h116_2, h116_3, h116_4, h116_5, h116_6, h116_7, h116_8, h116_9, h116_10⟩ := h116
            have hc121 : CUR 1 b n dt117 j105 := CUR_sm hc107 (by omega) (by omega) (by omega) (by omega)
            refine go_toq PM168 (k := 1) (pc' := 9) (L' := [some (.inr (.inr (some 79)))]) (st' := []) (w' := (SH, dt117)) rfl ?_
            exact GO.le (ih_loop79 dt117 hI118 hF120 (by exact ⟨_, hp108, hc121, hi109⟩) (by first | omega | exact ⟨_, hp108, hc121, hi109⟩) (by first | omega | exact ⟨_, hp108, hc121, hi109⟩) (by first | omega | exact ⟨_, hp108, hc121, hi109⟩) (by first | omega | exact ⟨_, hp108, hc121, hi109⟩) (by first | omega | exact ⟨_, hp108, hc121, hi109⟩) (by first | omega | exact ⟨_, hp108, hc121, hi109⟩) (by first | omega | exact ⟨_, hp108, hc121, hi109⟩) (by first | omega | exact ⟨_, hp108, hc121, hi109⟩) (by first | omega | exact ⟨_, hp108, hc121, hi109⟩) (by omega)) ⟨.inl rfl, trivial⟩
    exact GO.le (loop79 _ dt6 hI7 hF9 (by exact ⟨_, hp15, hc14, hi16⟩) (by first | omega | exact ⟨_, hp15, hc14, hi16⟩) (by first | omega | exact ⟨_, hp15, hc14, hi16⟩) (by first | omega | exact ⟨_, hp15, hc14, hi16⟩) (by first | omega | exact ⟨_, hp15, hc14, hi16⟩) (by first | omega | exact ⟨_, hp15, hc14, hi16⟩) (by first | omega | exact ⟨_, hp15, hc14, hi16⟩) (by first | omega | exact ⟨_, hp15, hc14, hi16⟩) (by first | omega | exact ⟨_, hp15, hc14, hi16⟩) (by first | omega | exact ⟨_, hp15, hc14, hi16⟩) (Nat.lt_succ_self _)) ⟨.inl rfl, trivial⟩
set_option maxHeartbeats 1500000 in
set_option maxRecDepth 20000 in
theorem lv_X6_one_g (L : Nat) (xs : Nat → Int32) (sio : Option Nat) (d : Nat) (dt : Nat → Nat → Int) (hI : InvC dt) (b : Nat → Int) (n t i : Nat) (hbb : mB (dt 85) (dt 79 12) = b) (hnn : dt 79 12 = (n : Int)) (hz : KZ (KF 1 b n) t) (ht : t ≤ 500) (hc : CUR 1 b n dt i) (hi : i ≤ t) (hn5 : n ≤ 500) (j : Nat) (IH_X6_one : ∀ (L : Nat) (xs : Nat → Int32) (sio : Option Nat) (d : Nat) (dt : Nat → Nat → Int) (hI : InvC dt) (b : Nat → Int) (n t i : Nat) (hbb : mB (dt 85) (dt 79 12) = b) (hnn : dt 79 12 = (n : Int)) (hz : KZ (KF 1 b n) t) (ht : t ≤ 500) (hc : CUR 1 b n dt i) (hi : i ≤ t) (hn5 : n ≤ 500) (h_p0 : dt 79 9 = 1) (h_p1 : dt 79 11 ≤ dt 79 15) (h_p2 : dt 79 20 + ((j : Nat) : Int) = 8) (h_p3 : 3 * j ≤ d), GO (am_XX L xs sio) (d + 10) 170 0 [some (.inr (.inr (some 79))), none] [] (SH, dt) (fun r w2 => ∃ dt2 : Nat → Nat → Int, w2 = (SH, dt2) ∧ InvC dt2 ∧ Fr [79, 84] dt dt2 ∧ ((r = some (.inl 0) ∧ (RSX 1 b n i dt2 0 ((gC (KF 1 b n) (VF b n) j) i)) ∧ (dt2 79 2 = dt 79 2) ∧ (dt2 79 9 = dt 79 9) ∧ (dt2 79 10 = dt 79 10) ∧ (dt2 79 12 = dt 79 12)) ∨ (r = some (.inl 1) ∧ (RSX 1 b n i dt2 1 ((gC (KF 1 b n) (VF b n) j) i)) ∧ (dt 79 15 + dt2 79 11 ≤ dt2 79 15 + dt 79 11) ∧ (dt 79 11 + 1 ≤ dt2 79 11) ∧ (dt2 79 15 ≤ 500) ∧ (dt2 79 2 = dt 79 2) ∧ (dt2 79 9 = dt 79 9) ∧ (dt2 79 10 = dt 79 10) ∧ (dt2 79 12 = dt 79 12) ∧ (dt2 79 17 = dt 79 17) ∧ (dt2 79 20 = dt 79 20))))) (IH_X6_every : ∀ (L : Nat) (xs : Nat → Int32) (sio : Option Nat) (d : Nat) (dt : Nat → Nat → Int) (hI : InvC dt) (b : Nat → Int) (n t i : Nat) (hbb : mB (dt 85) (dt 79 12) = b) (hnn : dt 79 12 = (n : Int)) (hz : KZ (KF 1 b n) t) (ht : t ≤ 500) (hc : CUR 1 b n dt i) (hi : i ≤ t) (hn5 : n ≤ 500) (h_p0 : dt 79 9 = 1) (h_p1 : dt 79 11 ≤ dt 79 15) (h_p2 : dt 79 20 + ((j : Nat) : Int) = 8) (h_p3 : 3 * j ≤ d), GO (am_XX L xs sio) (d + 11) 169 0 [some (.inr (.inr (some 79)))] [] (SH, dt) (fun r w2 => ∃ dt2 : Nat → Nat → Int, w2 = (SH, dt2) ∧ InvC dt2 ∧ Fr [79, 84] dt dt2 ∧ ((r = some (.inl 0) ∧ (RSX 1 b n i dt2 0 ((gEv (KF 1 b n) (VF b n) j) i)) ∧ (dt2 79 2 = dt 79 2) ∧ (dt2 79 9 = dt 79 9) ∧ (dt2 79 10 = dt 79 10) ∧ (dt2 79 12 = dt 79 12)) ∨ (r = some (.inl 1) ∧ (RSX 1 b n i dt2 1 ((gEv (KF 1 b n) (VF b n) j) i)) ∧ (dt 79 15 + dt2 79 11 ≤ dt2 79 15 + dt 79 11) ∧ (dt 79 11 + 1 ≤ dt2 79 11) ∧ (dt2 79 15 ≤ 500) ∧ (dt2 79 2 = dt 79 2) ∧ (dt2 79 9 = dt 79 9) ∧ (dt2 79 10 = dt 79 10) ∧ (dt2 79 12 = dt 79 12) ∧ (dt2 79 17 = dt 79 17) ∧ (dt2 79 20 = dt 79 20))))) (IH_X6_any : ∀ (L : Nat) (xs : Nat → Int32) (sio : Option Nat) (d : Nat) (dt : Nat → Nat → Int) (hI : InvC dt) (b : Nat → Int) (n t i : Nat) (hbb : mB (dt 85) (dt 79 12) = b) (hnn : dt 79 12 = (n : Int)) (hz : KZ (KF 1 b n) t) (ht : t ≤ 500) (hc : CUR 1 b n dt i) (hi : i ≤ t) (hn5 : n ≤ 500) (h_p0 : dt 79 9 = 1) (h_p1 : dt 79 11 ≤ dt 79 15) (h_p2 : dt 79 20 + ((j : Nat) : Int) = 8) (h_p3 : 3 * j ≤ d), GO (am_XX L xs sio) (d + 12) 168 0 [some (.inr (.inr (some 79)))] [] (SH, dt) (fun r w2 => ∃ dt2 : Nat → Nat → Int, w2 = (SH, dt2) ∧ InvC dt2 ∧ Fr [79, 84] dt dt2 ∧ ((r = some (.inl 0) ∧ (RSX 1 b n i dt2 0 ((gB_ (KF 1 b n) (VF b n) j) i)) ∧ (dt2 79 2 = dt 79 2) ∧ (dt2 79 9 = dt 79 9) ∧ (dt2 79 10 = dt 79 10) ∧ (dt2 79 12 = dt 79 12)) ∨ (r = some (.inl 1) ∧ (RSX 1 b n i dt2 1 ((gB_ (KF 1 b n) (VF b n) j) i)) ∧ (dt 79 15 + dt2 79 11 ≤ dt2 79 15 + dt 79 11) ∧ (dt 79 11 + 1 ≤ dt2 79 11) ∧ (dt2 79 15 ≤ 500) ∧ (dt2 79 2 = dt 79 2) ∧ (dt2 79 9 = dt 79 9) ∧ (dt2 79 10 = dt 79 10) ∧ (dt2 79 12 = dt 79 12) ∧ (dt2 79 17 = dt 79 17) ∧ (dt2 79 20 = dt 79 20)))))   (h_p0 : dt 79 9 = 1) (h_p1 : dt 79 11 ≤ dt 79 15) (h_p2 : dt 79 20 + (((j + 1) : Nat) : Int) = 8) (h_p3 : 3 * j ≤ d) : GO (am_XX L xs sio) (d + 13) 170 0 [some (.inr (.inr (some 79))), none] [] (SH, dt) (fun r w2 => ∃ dt2 : Nat → Nat → Int, w2 = (SH, dt2) ∧ InvC dt2 ∧ Fr [79, 84] dt dt2 ∧ ((r = some (.inl 0) ∧ (RSX 1 b n i dt2 0 ((gC (KF 1 b n) (VF b n) (j + 1)) i)) ∧ (dt2 79 2 = dt 79 2) ∧ (dt2 79 9 = dt 79 9) ∧ (dt2 79 10 = dt 79 10) ∧ (dt2 79 12 = dt 79 12)) ∨ (r = some (.inl 1) ∧ (RSX 1 b n i dt2 1 ((gC (KF 1 b n) (VF b n) (j + 1)) i)) ∧ (dt 79 15 + dt2 79 11 ≤ dt2 79 15 + dt 79 11) ∧ (dt 79 11 + 1 ≤ dt2 79 11) ∧ (dt2 79 15 ≤ 500) ∧ (dt2 79 2 = dt 79 2) ∧ (dt2 79 9 = dt 79 9) ∧ (dt2 79 10 = dt 79 10) ∧ (dt2 79 12 = dt 79 12) ∧ (dt2 79 17 = dt 79 17) ∧ (dt2 79 20 = dt 79 20)))) := by
  have hF : Fr [79, 84] dt dt := Fr_refl
  have r1 : 0 ≤ dt 79 15 ∧ dt 79 15 ≤ 500 := InvC_get hI 79 15 rfl rfl
  have r2 : 0 ≤ dt 79 11 ∧ dt 79 11 ≤ 510 := InvC_get hI 79 11 rfl rfl
  have r3 : 0 ≤ dt 79 10 ∧ dt 79 10 ≤ 24 := InvC_get hI 79 10 rfl rfl
  have r4 : 0 ≤ dt 79 20 ∧ dt 79 20 ≤ 8 := InvC_get hI 79 20 rfl rfl
  have cr0 := CUR_R hc (.inr rfl)
  have cb0 := CUR_b hc
  have cv0 := CUR_v hc
  have ck0 := KZ_lt (i := i) hz
  have c10 := hc.1
  have r5 : (-2147483648) ≤ dt 79 14 ∧ dt 79 14 ≤ 2147483647 := InvC_get hI 79 14 rfl rfl
  refine go_ifq PM170 (k := 3) (p1 := 44) (p2 := 9) (L' := [some (.inr (.inr (some 79))), none]) (st' := []) (w' := (SH, dt)) rfl (c_ne (a := dt 79 14) (b := 6) (by first | exact bnd r5 (by decide) (by decide) | exact ⟨by omega, by omega⟩) ⟨by decide, by decide⟩) (fun c6 => ?_) (fun c6 => ?_)
  · skip
    refine go_ifq PM170 (k := 3) (p1 := 92) (p2 := 54) (L' := [some (.inr (.inr (some 79))), none]) (st' := []) (w' := (SH, dt)) rfl (c_ne (a := dt 79 14) (b := 140) (by first | exact bnd r5 (by decide) (by decide) | exact ⟨by omega, by omega⟩) ⟨by decide, by decide⟩) (fun c7 => ?_) (fun c7 => ?_)
    · skip
      refine go_toq PM170 (k := 1) (pc' := 93) (L' := [some (.inr (.inr (some 79))), none]) (st' := [.inr (.inr (some 79))]) (w' := (SH, dt)) rfl ?_
      refine go_callq PM170 PM165 (Q' := _) rfl rfl rfl rfl (sp_X6_sumUp_g L xs sio (d + 3) dt hI b n t i (by first | exact hbb | (rw [show dt 85 = dt 85 from funext (hF 85 (by decide)), show dt 79 12 = dt 79 12 by omega]; exact hbb)) (by omega) hz ht hc hi hn5  (by first | exact True.intro | rfl | omega | trivial) (by first | exact True.intro | rfl | omega | trivial)) ?_
      rintro _ _ ⟨dt9, rfl, hI10, hF11, h8⟩
      refine ⟨rfl, ?_⟩
      have hF12 : Fr [79, 84] dt dt9 := Fr_tr hF hF11 (by decide)
      rcases h8 with ⟨rfl, h8⟩ | ⟨rfl, h8⟩
      · skip
        obtain ⟨h8_0, h8_1, h8_2, h8_3, h8_4⟩ := h8
        have fl13 := RSX_0 h8_0 rfl
        have fe14 : (gC (KF 1 b n) (VF b n) (j + 1)) i = (gE (KF 1 b n) (VF b n)) i := (rfl : (gC (KF 1 b n) (VF b n) (j + 1)) i = (gC (KF 1 b n) (VF b n) (j + 1)) i).trans ((show (gC (KF 1 b n) (VF b n) (j + 1)) i = gB ((gE (KF 1 b n) (VF b n)) i) (gR1 (KF 1 b n) (VF b n)) by exact (gC_1 (by omega) (by omega)).trans gC1_R).trans (gB_no fl13.1))
        refine go_retq PM170 (k := 2) (r := some (.inl 0)) (w1 := (SH, dt9)) rfl ?_
        exact ⟨dt9, rfl, hI10, hF12, (Or.inl ⟨rfl, ⟨by first | exact RSX_f fe14 fl13 (by omega) (by omega) | exact RSX_no (k := 1) (j := i) ((rfl : (gC (KF 1 b n) (VF b n) (j + 1)) i = (gC (KF 1 b n) (VF b n) (j + 1)) i).trans (by show gR1 _ _ _ = _; unfold gR1; rw [if_neg (by omega)])) (by decide) (by omega) (by show _ = ((TP b n i : Nat) : Int); omega), by first | exact True.intro | rfl | omega | trivial, by first | exact True.intro | rfl | omega | trivial, by first | exact True.intro | rfl | omega | trivial, by first | exact True.intro | rfl | omega | trivial⟩⟩)⟩
      · skip
        obtain ⟨h8_0, h8_1, h8_2, h8_3, h8_4, h8_5, h8_6, h8_7, h8_8, h8_9⟩ := h8
        obtain ⟨j15, ej16, hc17⟩ := RSX_1 h8_0 (by decide)
        have hp18 : (gC (KF 1 b n) (VF b n) (j + 1)) i = (gR1 (KF 1 b n) (VF b n)) j15 := (rfl : (gC (KF 1 b n) (VF b n) (j + 1)) i = (gC (KF 1 b n) (VF b n) (j + 1)) i).trans ((show (gC (KF 1 b n) (VF b n) (j + 1)) i = gB ((gE (KF 1 b n) (VF b n)) i) (gR1 (KF 1 b n) (VF b n)) by exact (gC_1 (by omega) (by omega)).trans gC1_R).trans (by rw [ej16]; exact gB_0))
        have hi19 : j15 ≤ t := by have z := gE_M (K := (KF 1 b n)) (V := (VF b n)) (i := i) hz; rw [ej16] at z; have y := z rfl; simp only at y; omega
        clear cr0 cb0 cv0 ck0
        have cr20 := CUR_R hc17 (.inr rfl)
        have cb21 := CUR_b hc17
        have cv22 := CUR_v hc17
        have ck23 := KZ_lt (i := j15) hz
        have c124 := (hc17).1
        have ci25 := hi19
        have r26 : (-2147483648) ≤ dt9 79 14 ∧ dt9 79 14 ≤ 2147483647 := InvC_get hI10 79 14 rfl rfl
        refine go_ifq PM170 (k := 4) (p1 := 116) (p2 := 111) (L' := [some (.inr (.inr (some 79))), none]) (st' := []) (w' := (SH, dt9)) rfl (c_ne (a := dt9 79 14) (b := 160) (by first | exact bnd r26 (by decide) (by decide) | exact ⟨by omega, by omega⟩) ⟨by decide, by decide⟩) (fun c27 => ?_) (fun c27 => ?_)
        · skip
          refine go_ifq PM170 (k := 3) (p1 := 131) (p2 := 126) (L' := [some (.inr (.inr (some 79))), none]) (st' := []) (w' := (SH, dt9)) rfl (c_ne (a := dt9 79 14) (b := 161) (by first | exact bnd r26 (by decide) (by decide) | exact ⟨by omega, by omega⟩) ⟨by decide, by decide⟩) (fun c28 => ?_) (fun c28 => ?_)
          · skip
            refine go_ifq PM170 (k := 3) (p1 := 146) (p2 := 141) (L' := [some (.inr (.inr (some 79))), none]) (st' := []) (w' := (SH, dt9)) rfl (c_ne (a := dt9 79 14) (b := 162) (by first | exact bnd r26 (by decide) (by decide) | exact ⟨by omega, by omega⟩) ⟨by decide, by decide⟩) (fun c29 => ?_) (fun c29 => ?_)
            · skip
              refine go_toq PM170 (k := 7) (pc' := 155) (L' := [some (.inr (.inr (some 79))), some (.inl (-1))]) (st' := [.inl 1, .inr (.inr (some 79))]) (w' := (SH, dt9)) rfl ?_
              refine go_callq PM170 PM160 (Q' := _) rfl rfl rfl rfl (sp_X6_bad_g L xs sio (d + 12) dt9 hI10  1 ⟨by decide, by decide⟩ ) ?_
              rintro _ _ ⟨dt31, rfl, hI32, hF33, h30⟩
              refine ⟨rfl, ?_⟩
              have hF34 : Fr [79, 84] dt dt31 := Fr_tr hF12 hF33 (by decide)
              rcases h30 with ⟨rfl, h30⟩
              obtain ⟨h30_0, h30_1, h30_2, h30_3, h30_4, h30_5, h30_6, h30_7, h30_8, h30_9, h30_10, h30_11⟩ := h30
              have hc35 : CUR 1 b n dt31 j15 := CUR_sm hc17 (by omega) (by omega) (by omega) (by omega)
              refine go_retq PM170 (k := 0) (r := some (.inl 0)) (w1 := (SH, dt31)) rfl ?_
              exact ⟨dt31, rfl, hI32, hF34, (Or.inl ⟨rfl, ⟨by first | exact RSX_f hI hI (by omega) (by omega) | exact RSX_no (k := 1) (j := j15) (hp18.trans (by show gR1 _ _ _ = _; unfold gR1; rw [if_neg (by omega)])) (by decide) (by omega) (by show _ = ((TP b n j15 : Nat) : Int); omega), by first | exact True.intro | rfl | omega | trivial, by first | exact True.intro | rfl | omega | trivial, by first | exact True.intro | rfl | omega | trivial, by first | exact True.intro | rfl | omega | trivial⟩⟩)⟩
            · skip
              refine go_toq PM170 (k := 7) (pc' := 160) (L' := [some (.inr (.inr (some 79))), some (.inl 13)]) (st' := [.inr (.inr (some 79))]) (w' := (SH, dt9)) rfl ?_
              refine go_callq PM170 PM159 (Q' := _) rfl rfl rfl rfl (sp_X6_next0_p1 L xs sio (d + 6) dt9 hI10   (by first | exact True.intro | rfl | omega | trivial) (by first | exact True.intro | rfl | omega | trivial)) ?_
              rintro _ _ ⟨dt37, rfl, hI38, hF39, h36⟩
              refine ⟨rfl, ?_⟩
              have hF40 : Fr [79, 84] dt dt37 := Fr_tr hF12 hF39 (by decide)
              rcases h36 with ⟨rfl, h36⟩
              obtain ⟨h36_0, h36_1, h36_2, h36_3, h36_4, h36_5, h36_6, h36_7, h36_8⟩ := h36
              have hq41 := h36_0
              rw [show dt9 85 = dt 85 from funext (hF12 85 (by decide)), show dt9 79 12 = dt 79 12 by omega, hbb, show (dt 79 12).toNat = n by omega] at hq41
              have hc42 : CUR 1 b n dt37 (j15 + 1) := CUR_n hc17 hq41
              have hi43 : j15 + 1 ≤ t := by omega
              have av44 : dt9 79 15 + 1 ≤ dt9 79 13 := by omega
              have hp45 : (gC (KF 1 b n) (VF b n) (j + 1)) i = (gE (KF 1 b n) (VF b n)) (j15 + 1) := hp18.trans (by show gR1 _ _ j15 = _; unfold gR1; rw [if_pos (by omega)])
              clear cr20 cb21 cv22 ck23
              have cr46 := CUR_R hc42 (.inr rfl)
              have cb47 := CUR_b hc42
              have cv48 := CUR_v hc42
              have ck49 := KZ_lt (i := (j15 + 1)) hz
              have c150 := (hc42).1
              have ci51 := hi43
              refine go_toq PM170 (k := 1) (pc' := 164) (L' := [some (.inr (.inr (some 79))), some (.inl 13)]) (st' := [.inr (.inr (some 79))]) (w' := (SH, dt37)) rfl ?_
              refine go_callq PM170 PM165 (Q' := _) rfl rfl rfl rfl (sp_X6_sumUp_g L xs sio (d + 3) dt37 hI38 b n t (j15 + 1) (by first | exact hbb | (rw [show dt37 85 = dt 85 from funext (hF40 85 (by decide)), show dt37 79 12 = dt 79 12 by omega]; exact hbb)) (by omega) hz ht hc42 hi43 hn5  (by first | exact True.intro | rfl | omega | trivial) (by first | exact True.intro | rfl | omega | trivial)) ?_
              rintro _ _ ⟨dt53, rfl, hI54, hF55, h52⟩
              refine ⟨rfl, ?_⟩
              have hF56 : Fr [79, 84] dt dt53 := Fr_tr hF40 hF55 (by decide)
              rcases h52 with ⟨rfl, h52⟩ | ⟨rfl, h52⟩
              · skip
                obtain ⟨h52_0, h52_1, h52_2, h52_3, h52_4⟩ := h52
                have fl57 := RSX_0 h52_0 rfl
                have fe58 : (gC (KF 1 b n) (VF b n) (j + 1)) i = (gE (KF 1 b n) (VF b n)) (j15 + 1) := hp45.trans ((show (gE (KF 1 b n) (VF b n)) (j15 + 1) = gB ((gE (KF 1 b n) (VF b n)) (j15 + 1)) gOk by exact gB_id.symm).trans (gB_no fl57.1))
                refine go_retq PM170 (k := 2) (r := some (.inl 0)) (w1 := (SH, dt53)) rfl ?_
                exact ⟨dt53, rfl, hI54, hF56, (Or.inl ⟨rfl, ⟨by first | exact RSX_f fe58 fl57 (by omega) (by omega) | exact RSX_no (k := 1) (j := (j15 + 1)) (hp45.trans (by show gR1 _ _ _ = _; unfold gR1; rw [if_neg (by omega)])) (by decide) (by omega) (by show _ = ((TP b n (j15 + 1) : Nat) : Int); omega), by first | exact True.intro | rfl | omega | trivial, by first | exact True.intro | rfl | omega | trivial, by first | exact True.intro | rfl | omega | trivial, by first | exact True.intro | rfl | omega | trivial⟩⟩)⟩
              · skip
                obtain ⟨h52_0, h52_1, h52_2, h52_3, h52_4, h52_5, h52_6, h52_7, h52_8, h52_9⟩ := h52
                obtain ⟨j59, ej60, hc61⟩ := RSX_1 h52_0 (by decide)
                have hp62 : (gC (KF 1 b n) (VF b n) (j + 1)) i = gOk j59 := hp45.trans ((show (gE (KF 1 b n) (VF b n)) (j15 + 1) = gB ((gE (KF 1 b n) (VF b n)) (j15 + 1)) gOk by exact gB_id.symm).trans (by rw [ej60]; exact gB_0))
                have hi63 : j59 ≤ t := by have z := gE_M (K := (KF 1 b n)) (V := (VF b n)) (i := (j15 + 1)) hz; rw [ej60] at z; have y := z rfl; simp only at y; omega
                clear cr46 cb47 cv48 ck49
                have cr64 := CUR_R hc61 (.inr rfl)
                have cb65 := CUR_b hc61
                have cv66 := CUR_v hc61
                have ck67 := KZ_lt (i := j59) hz
                have c168 := (hc61).1
                have ci69 := hi63
                refine go_toq PM170 (k := 4) (pc' := 175) (L' := [some (.inr (.inr (some 79))), some (.inl 13)]) (st' := [.inl 0, .inl 13, .inr (.inr (some 79))]) (w' := (SH, dt53)) rfl ?_
                refine go_callq PM170 PM163 (Q' := _) rfl rfl rfl rfl (sp_X6_lay_g L xs sio (d + 12) dt53 hI54  13 ⟨by decide, by decide⟩ 0 ⟨by decide, by decide⟩ (by first | exact True.intro | rfl | omega | trivial)) ?_
                rintro _ _ ⟨dt71, rfl, hI72, hF73, h70⟩
                refine ⟨rfl, ?_⟩
                have hF74 : Fr [79, 84] dt dt71 := Fr_tr hF56 hF73 (by decide)
                rcases h70 with ⟨rfl, h70⟩
                obtain ⟨h70_0, h70_1, h70_2, h70_3, h70_4, h70_5, h70_6, h70_7, h70_8, h70_9, h70_10⟩ := h70
                have hc75 : CUR 1 b n dt71 j59 := CUR_sm hc61 (by omega) (by omega) (by omega) (by omega)
                refine go_retq PM170 (k := 1) (r := some (.inl 1)) (w1 := (SH, dt71)) rfl ?_
                exact ⟨dt71, rfl, hI72, hF74, (Or.inr ⟨rfl, ⟨by exact RSX_ok (hp62.trans (by rfl)) hc75, by first | exact True.intro | rfl | omega | trivial, by first | exact True.intro | rfl | omega | trivial, by exact (InvC_get (by assumption) 79 15 rfl rfl).2, by first | exact True.intro | rfl | omega | trivial, by first | exact True.intro | rfl | omega | trivial, by first | exact True.intro | rfl | omega | trivial, by first | exact True.intro | rfl | omega | trivial, by first | exact True.intro | rfl | omega | trivial, by first | exact True.intro | rfl | omega | trivial⟩⟩)⟩
          · skip
            refine go_toq PM170 (k := 7) (pc' := 160) (L' := [some (.inr (.inr (some 79))), some (.inl 12)]) (st' := [.inr (.inr (some 79))]) (w' := (SH, dt9)) rfl ?_
            refine go_callq PM170 PM159 (Q' := _) rfl rfl rfl rfl (sp_X6_next0_p1 L xs sio (d + 6) dt9 hI10   (by first | exact True.intro | rfl | omega | trivial) (by first | exact True.intro | rfl | omega | trivial)) ?_
            rintro _ _ ⟨dt77, rfl, hI78, hF79, h76⟩
            refine ⟨rfl, ?_⟩
            have hF80 : Fr [79, 84] dt dt77 := Fr_tr hF12 hF79 (by decide)
            rcases h76 with ⟨rfl, h76⟩
            obtain ⟨h76_0, h76_1, h76_2, h76_3, h76_4, h76_5, h76_6, h76_7, h76_8⟩ := h76
            have hq81 := h76_0
            rw [show dt9 85 = dt 85 from funext (hF12 85 (by decide)), show dt9 79 12 = dt 79 12 by omega, hbb, show (dt 79 12).toNat = n by omega] at hq81
            have hc82 : CUR 1 b n dt77 (j15 + 1) := CUR_n hc17 hq81
            have hi83 : j15 + 1 ≤ t := by omega
            have av84 : dt9 79 15 + 1 ≤ dt9 79 13 := by omega
            have hp85 : (gC (KF 1 b n) (VF b n) (j + 1)) i = (gE (KF 1 b n) (VF b n)) (j15 + 1) := hp18.trans (by show gR1 _ _ j15 = _; unfold gR1; rw [if_pos (by omega)])
            clear cr20 cb21 cv22 ck23
            have cr86 := CUR_R hc82 (.inr rfl)
            have cb87 := CUR_b hc82
            have cv88 := CUR_v hc82
            have ck89 := KZ_lt (i := (j15 + 1)) hz
            have c190 := (hc82).1
            have ci91 := hi83
            refine go_toq PM170 (k := 1) (pc' := 164) (L' := [some (.inr (.inr (some 79))), some (.inl 12)]) (st' := [.inr (.inr (some 79))]) (w' := (SH, dt77)) rfl ?_
            refine go_callq PM170 PM165 (Q' := _) rfl rfl rfl rfl (sp_X6_sumUp_g L xs sio (d + 3) dt77 hI78 b n t (j15 + 1) (by first | exact hbb | (rw [show dt77 85 = dt 85 from funext (hF80 85 (by decide)), show dt77 79 12 = dt 79 12 by omega]; exact hbb)) (by omega) hz ht hc82 hi83 hn5  (by first | exact True.intro | rfl | omega | trivial) (by first | exact True.intro | rfl | omega | trivial)) ?_
            rintro _ _ ⟨dt93, rfl, hI94, hF95, h92⟩
            refine ⟨rfl, ?_⟩
            have hF96 : Fr [79, 84] dt dt93 := Fr_tr hF80 hF95 (by decide)
            rcases h92 with ⟨rfl, h92⟩ | ⟨rfl, h92⟩
            · skip
              obtain ⟨h92_0, h92_1, h92_2, h92_3, h92_4⟩ := h92
              have fl97 := RSX_0 h92_0 rfl
              have fe98 : (gC (KF 1 b n) (VF b n) (j + 1)) i = (gE (KF 1 b n) (VF b n)) (j15 + 1) := hp85.trans ((show (gE (KF 1 b n) (VF b n)) (j15 + 1) = gB ((gE (KF 1 b n) (VF b n)) (j15 + 1)) gOk by exact gB_id.symm).trans (gB_no fl97.1))
              refine go_retq PM170 (k := 2) (r := some (.inl 0)) (w1 := (SH, dt93)) rfl ?_
              exact ⟨dt93, rfl, hI94, hF96, (Or.inl ⟨rfl, ⟨by first | exact RSX_f fe98 fl97 (by omega) (by omega) | exact RSX_no (k := 1) (j := (j15 + 1)) (hp85.trans (by show gR1 _ _ _ = _; unfold gR1; rw [if_neg (by omega)])) (by decide) (by omega) (by show _ = ((TP b n (j15 + 1) : Nat) : Int); omega), by first | exact True.intro | rfl | omega | trivial, by first | exact True.intro | rfl | omega | trivial, by first | exact True.intro | rfl | omega | trivial, by first | exact True.intro | rfl | omega | trivial⟩⟩)⟩
            · skip
              obtain ⟨h92_0, h92_1, h92_2, h92_3, h92_4, h92_5, h92_6, h92_7, h92_8, h92_9⟩ := h92
              obtain ⟨j99, ej100, hc101⟩ := RSX_1 h92_0 (by decide)
              have hp102 : (gC (KF 1 b n) (VF b n) (j + 1)) i = gOk j99 := hp85.trans ((show (gE (KF 1 b n) (VF b n)) (j15 + 1) = gB ((gE (KF 1 b n) (VF b n)) (j15 + 1)) gOk by exact gB_id.symm).trans (by rw [ej100]; exact gB_0))
              have hi103 : j99 ≤ t := by have z := gE_M (K := (KF 1 b n)) (V := (VF b n)) (i := (j15 + 1)) hz; rw [ej100] at z; have y := z rfl; simp only at y; omega
              clear cr86 cb87 cv88 ck89
              have cr104 := CUR_R hc101 (.inr rfl)
              have cb105 := CUR_b hc101
              have cv106 := CUR_v hc101
              have ck107 := KZ_lt (i := j99) hz
              have c1108 := (hc101).1
              have ci109 := hi103
              refine go_toq PM170 (k := 4) (pc' := 175) (L' := [some (.inr (.inr (some 79))), some (.inl 12)]) (st' := [.inl 0, .inl 12, .inr (.inr (some 79))]) (w' := (SH, dt93)) rfl ?_
              refine go_callq PM170 PM163 (Q' := _) rfl rfl rfl rfl (sp_X6_lay_g L xs sio (d + 12) dt93 hI94  12 ⟨by decide, by decide⟩ 0 ⟨by decide, by decide⟩ (by first | exact True.intro | rfl | omega | trivial)) ?_
              rintro _ _ ⟨dt111, rfl, hI112, hF113, h110⟩
              refine ⟨rfl, ?_⟩
              have hF114 : Fr [79, 84] dt dt111 := Fr_tr hF96 hF113 (by decide)
              rcases h110 with ⟨rfl, h110⟩
              obtain ⟨h110_0, h110_1, h110_2, h110_3, h110_4, h110_5, h110_6, h110_7, h110_8, h110_9, h110_10⟩ := h110
              have hc115 : CUR 1 b n dt111 j99 := CUR_sm hc101 (by omega) (by omega) (by omega) (by omega)
              refine go_retq PM170 (k := 1) (r := some (.inl 1)) (w1 := (SH, dt111)) rfl ?_
              exact ⟨dt111, rfl, hI112, hF114, (Or.inr ⟨rfl, ⟨by exact RSX_ok (hp102.trans (by rfl)) hc115, by first | exact True.intro | rfl | omega | trivial, by first | exact True.intro | rfl | omega | trivial, by exact (InvC_get (by assumption) 79 15 rfl rfl).2, by first | exact True.intro | rfl | omega | trivial, by first | exact True.intro | rfl | omega | trivial, by first | exact True.intro | rfl | omega | trivial, by first | exact True.intro | rfl | omega | trivial, by first | exact True.intro | rfl | omega | trivial, by first | exact True.intro | rfl | omega | trivial⟩⟩)⟩
        · skip
          refine go_toq PM170 (k := 7) (pc' := 160) (L' := [some (.inr (.inr (some 79))), some (.inl 11)]) (st' := [.inr (.inr (some 79))]) (w' := (SH, dt9)) rfl ?_
          refine go_callq PM170 PM159 (Q' := _) rfl rfl rfl rfl (sp_X6_next0_p1 L xs sio (d + 6) dt9 hI10   (by first | exact True.intro | rfl | omega | trivial) (by first | exact True.intro | rfl | omega | trivial)) ?_
          rintro _ _ ⟨dt117, rfl, hI118, hF119, h116⟩
          refine ⟨rfl, ?_⟩
          have hF120 : Fr [79, 84] dt dt117 := Fr_tr hF12 hF119 (by decide)
          rcases h116 with ⟨rfl, h116⟩
          obtain ⟨h116_0, h116_1, h116_2, h116_3, h116_4, h116_5, h116_6, h116_7, h116_8⟩ := h116
          have hq121 := h116_0
          rw [show dt9 85 = dt 85 from funext (hF12 85 (by decide)), show dt9 79 12 = dt 79 12 by omega, hbb, show (dt 79 12).toNat = n by omega] at hq121
          have hc122 : CUR 1 b n dt117 (j15 + 1) := CUR_n hc17 hq121
          have hi123 : j15 + 1 ≤ t := by omega
          have av124 : dt9 79 15 + 1 ≤ dt9 79 13 := by omega
          have hp125 : (gC (KF 1 b n) (VF b n) (j + 1)) i = (gE (KF 1 b n) (VF b n)) (j15 + 1) := hp18.trans (by show gR1 _ _ j15 = _; unfold gR1; rw [if_pos (by omega)])
          clear cr20 cb21 cv22 ck23
          have cr126 := CUR_R hc122 (.inr rfl)
          have cb127 := CUR_b hc122
          have cv128 := CUR_v hc122
          have ck129 := KZ_lt (i := (j15 + 1)) hz
          have c1130 := (hc122).1
          have ci131 := hi123
          refine go_toq PM170 (k := 1) (pc' := 164) (L' := [some (.inr (.inr (some 79))), some (.inl 11)]) (st' := [.inr (.inr (some 79))]) (w' := (SH, dt117)) rfl ?_
          refine go_callq PM170 PM165 (Q' := _) rfl rfl rfl rfl (sp_X6_sumUp_g L xs sio (d + 3) dt117 hI118 b n t (j15 + 1) (by first | exact hbb | (rw [show dt117 85 = dt 85 from funext (hF120 85 (by decide)), show dt117 79 12 = dt 79 12 by omega]; exact hbb)) (by omega) hz ht hc122 hi123 hn5  (by first | exact True.intro | rfl | omega | trivial) (by first | exact True.intro | rfl | omega | trivial)) ?_
          rintro _ _ ⟨dt133, rfl, hI134, hF135, h132⟩
          refine ⟨rfl, ?_⟩
          have hF136 : Fr [79, 84] dt dt133 := Fr_tr hF120 hF135 (by decide)
          rcases h132 with ⟨rfl, h132⟩ | ⟨rfl, h132⟩
          · skip
            obtain ⟨h132_0, h132_1, h132_2, h132_3, h132_4⟩ := h132
            have fl137 := RSX_0 h132_0 rfl
            have fe138 : (gC (KF 1 b n) (VF b n) (j + 1)) i = (gE (KF 1 b n) (VF b n)) (j15 + 1) := hp125.trans ((show (gE (KF 1 b n) (VF b n)) (j15 + 1) = gB ((gE (KF 1 b n) (VF b n)) (j15 + 1)) gOk by exact gB_id.symm).trans (gB_no fl137.1))
            refine go_retq PM170 (k := 2) (r := some (.inl 0)) (w1 := (SH, dt133)) rfl ?_
            exact ⟨dt133, rfl, hI134, hF136, (Or.inl ⟨rfl, ⟨by first | exact RSX_f fe138 fl137 (by omega) (by omega) | exact RSX_no (k := 1) (j := (j15 + 1)) (hp125.trans (by show gR1 _ _ _ = _; unfold gR1; rw [if_neg (by omega)])) (by decide) (by omega) (by show _ = ((TP b n (j15 + 1) : Nat) : Int); omega), by first | exact True.intro | rfl | omega | trivial, by first | exact True.intro | rfl | omega | trivial, by first | exact True.intro | rfl | omega | trivial, by first | exact True.intro | rfl | omega | trivial⟩⟩)⟩
          · skip
            obtain ⟨h132_0, h132_1, h132_2, h132_3, h132_4, h132_5, h132_6, h132_7, h132_8, h132_9⟩ := h132
            obtain ⟨j139, ej140, hc141⟩ := RSX_1 h132_0 (by decide)
            have hp142 : (gC (KF 1 b n) (VF b n) (j + 1)) i = gOk j139 := hp125.trans ((show (gE (KF 1 b n) (VF b n)) (j15 + 1) = gB ((gE (KF 1 b n) (VF b n)) (j15 + 1)) gOk by exact gB_id.symm).trans (by rw [ej140]; exact gB_0))
            have hi143 : j139 ≤ t := by have z := gE_M (K := (KF 1 b n)) (V := (VF b n)) (i := (j15 + 1)) hz; rw [ej140] at z; have y := z rfl; simp only at y; omega
            clear cr126 cb127 cv128 ck129
            have cr144 := CUR_R hc141 (.inr rfl)
            have cb145 := CUR_b hc141
            have cv146 := CUR_v hc141
            have ck147 := KZ_lt (i := j139) hz
            have c1148 := (hc141).1
            have ci149 := hi143
            refine go_toq PM170 (k := 4) (pc' := 175) (L' := [some (.inr (.inr (some 79))), some (.inl 11)]) (st' := [.inl 0, .inl 11, .inr (.inr (some 79))]) (w' := (SH, dt133)) rfl ?_
            refine go_callq PM170 PM163 (Q' := _) rfl rfl rfl rfl (sp_X6_lay_g L xs sio (d + 12) dt133 hI134  11 ⟨by decide, by decide⟩ 0 ⟨by decide, by decide⟩ (by first | exact True.intro | rfl | omega | trivial)) ?_
            rintro _ _ ⟨dt151, rfl, hI152, hF153, h150⟩
            refine ⟨rfl, ?_⟩
            have hF154 : Fr [79, 84] dt dt151 := Fr_tr hF136 hF153 (by decide)
            rcases h150 with ⟨rfl, h150⟩
            obtain ⟨h150_0, h150_1, h150_2, h150_3, h150_4, h150_5, h150_6, h150_7, h150_8, h150_9, h150_10⟩ := h150
            have hc155 : CUR 1 b n dt151 j139 := CUR_sm hc141 (by omega) (by omega) (by omega) (by omega)
            refine go_retq PM170 (k := 1) (r := some (.inl 1)) (w1 := (SH, dt151)) rfl ?_
            exact ⟨dt151, rfl, hI152, hF154, (Or.inr ⟨rfl, ⟨by exact RSX_ok (hp142.trans (by rfl)) hc155, by first | exact True.intro | rfl | omega | trivial, by first | exact True.intro | rfl | omega | trivial, by exact (InvC_get (by assumption) 79 15 rfl rfl).2, by first | exact True.intro | rfl | omega | trivial, by first | exact True.intro | rfl | omega | trivial, by first | exact True.intro | rfl | omega | trivial, by first | exact True.intro | rfl | omega | trivial, by first | exact True.intro | rfl | omega | trivial, by first | exact True.intro | rfl | omega | trivial⟩⟩)⟩
    · skip
      refine go_toq PM170 (k := 1) (pc' := 55) (L' := [some (.inr (.inr (some 79))), none]) (st' := [.inr (.inr (some 79))]) (w' := (SH, dt)) rfl ?_
      refine go_callq PM170 PM164 (Q' := _) rfl rfl rfl rfl (sp_X6_opens_o L xs sio (d + 5) dt hI b n t i (by first | exact hbb | (rw [show dt 85 = dt 85 from funext (hF 85 (by decide)), show dt 79 12 = dt 79 12 by omega]; exact hbb)) (by omega) hz ht hc hi hn5  (by first | exact True.intro | rfl | omega | trivial) (by first | exact True.intro | rfl | omega | trivial) (by first | exact True.intro | rfl | omega | trivial)) ?_
      rintro _ _ ⟨dt157, rfl, hI158, hF159, h156⟩
      refine ⟨rfl, ?_⟩
      have hF160 : Fr [79, 84] dt dt157 := Fr_tr hF hF159 (by decide)
      rcases h156 with ⟨rfl, h156⟩
      obtain ⟨h156_0, h156_1, h156_2, h156_3, h156_4, h156_5, h156_6, h156_7, h156_8, h156_9⟩ := h156
      obtain ⟨j161, ej162, hc163⟩ := RSX_1 h156_0 (by decide)
      have hp164 : (gC (KF 1 b n) (VF b n) (j + 1)) i = (fun i => gB (gB_ (KF 1 b n) (VF b n) j i) (gK (KF 1 b n) 41)) j161 := (rfl : (gC (KF 1 b n) (VF b n) (j + 1)) i = (gC (KF 1 b n) (VF b n) (j + 1)) i).trans ((show (gC (KF 1 b n) (VF b n) (j + 1)) i = gB (gOp i) (fun i => gB (gB_ (KF 1 b n) (VF b n) j i) (gK (KF 1 b n) 41)) by exact gC_p (by omega)).trans (by rw [ej162]; exact gB_0))
      have hi165 : j161 ≤ t := by have z : gOp i = (0, j161) := ej162; have y : i + 1 = j161 := congrArg Prod.snd z; omega
      clear cr0 cb0 cv0 ck0
      have cr166 := CUR_R hc163 (.inr rfl)
      have cb167 := CUR_b hc163
      have cv168 := CUR_v hc163
      have ck169 := KZ_lt (i := j161) hz
      have c1170 := (hc163).1
      have ci171 := hi165
      refine go_toq PM170 (k := 2) (pc' := 62) (L' := [some (.inr (.inr (some 79))), none]) (st' := [.inr (.inr (some 79))]) (w' := (SH, dt157)) rfl ?_
      refine go_callq PM170 PM168 (Q' := _) rfl rfl rfl rfl (IH_X6_any L xs sio (d + 0) dt157 hI158 b n t j161 (by first | exact hbb | (rw [show dt157 85 = dt 85 from funext (hF160 85 (by decide)), show dt157 79 12 = dt 79 12 by omega]; exact hbb)) (by omega) hz ht hc163 hi165 hn5  (by first | exact True.intro | rfl | omega | trivial) (by first | exact True.intro | rfl | omega | trivial) (by first | exact True.intro | rfl | omega | trivial) (by first | exact True.intro | rfl | omega | trivial)) ?_
      rintro _ _ ⟨dt173, rfl, hI174, hF175, h172⟩
      refine ⟨rfl, ?_⟩
      have hF176 : Fr [79, 84] dt dt173 := Fr_tr hF160 hF175 (by decide)
      rcases h172 with ⟨rfl, h172⟩ | ⟨rfl, h172⟩
      · skip
        obtain ⟨h172_0, h172_1, h172_2, h172_3, h172_4⟩ := h172
        have fl177 := RSX_0 h172_0 rfl
        have fe178 : (gC (KF 1 b n) (VF b n) (j + 1)) i = (gB_ (KF 1 b n) (VF b n) j) j161 := hp164.trans ((show (fun i => gB (gB_ (KF 1 b n) (VF b n) j i) (gK (KF 1 b n) 41)) j161 = gB ((gB_ (KF 1 b n) (VF b n) j) j161) (gK (KF 1 b n) 41) by rfl).trans (gB_no fl177.1))
        refine go_retq PM170 (k := 2) (r := some (.inl 0)) (w1 := (SH, dt173)) rfl ?_
        exact ⟨dt173, rfl, hI174, hF176, (Or.inl ⟨rfl, ⟨by first | exact RSX_f fe178 fl177 (by omega) (by omega) | exact RSX_no (k := 1) (j := j161) (hp164.trans (by show gR1 _ _ _ = _; unfold gR1; rw [if_neg (by omega)])) (by decide) (by omega) (by show _ = ((TP b n j161 : Nat) : Int); omega), by first | exact True.intro | rfl | omega | trivial, by first | exact True.intro | rfl | omega | trivial, by first | exact True.intro | rfl | omega | trivial, by first | exact True.intro | rfl | omega | trivial⟩⟩)⟩
      · skip
        obtain ⟨h172_0, h172_1, h172_2, h172_3, h172_4, h172_5, h172_6, h172_7, h172_8, h172_9⟩ := h172
        obtain ⟨j179, ej180, hc181⟩ := RSX_1 h172_0 (by decide)
        have hp182 : (gC (KF 1 b n) (VF b n) (j + 1)) i = (gK (KF 1 b n) 41) j179 := hp164.trans ((show (fun i => gB (gB_ (KF 1 b n) (VF b n) j i) (gK (KF 1 b n) 41)) j161 = gB ((gB_ (KF 1 b n) (VF b n) j) j161) (gK (KF 1 b n) 41) by rfl).trans (by rw [ej180]; exact gB_0))
        have hi183 : j179 ≤ t := by have z := gB__M (K := (KF 1 b n)) (V := (VF b n)) (d := j) (i := j161) hz; rw [ej180] at z; have y := z rfl; simp only at y; omega
        clear cr166 cb167 cv168 ck169
        have cr184 := CUR_R hc181 (.inr rfl)
        have cb185 := CUR_b hc181
        have cv186 := CUR_v hc181
        have ck187 := KZ_lt (i := j179) hz
        have c1188 := (hc181).1
        have ci189 := hi183
        refine go_toq PM170 (k := 3) (pc' := 72) (L' := [some (.inr (.inr (some 79))), none]) (st' := [.inl 141, .inr (.inr (some 79))]) (w' := (SH, dt173)) rfl ?_
        refine go_callq PM170 PM161 (Q' := _) rfl rfl rfl rfl (sp_X6_need0_g1 L xs sio (d + 5) dt173 hI174 b n t j179 (by first | exact hbb | (rw [show dt173 85 = dt 85 from funext (hF176 85 (by decide)), show dt173 79 12 = dt 79 12 by omega]; exact hbb)) (by omega) hz ht hc181 hi183 hn5 141 ⟨by decide, by decide⟩ (by first | exact True.intro | rfl | omega | trivial)) ?_
        rintro _ _ ⟨dt191, rfl, hI192, hF193, h190⟩
        refine ⟨rfl, ?_⟩
        have hF194 : Fr [79, 84] dt dt191 := Fr_tr hF176 hF193 (by decide)
        rcases h190 with ⟨rfl, h190⟩ | ⟨rfl, h190⟩
        · skip
          obtain ⟨h190_0, h190_1, h190_2, h190_3, h190_4⟩ := h190
          have fl195 := RSX_0 h190_0 rfl
          have fe196 : (gC (KF 1 b n) (VF b n) (j + 1)) i = (gK (KF 1 b n) (141 - 100)) j179 := hp182.trans ((show (gK (KF 1 b n) 41) j179 = gB ((gK (KF 1 b n) (141 - 100)) j179) gOk by exact gB_id.symm).trans (gB_no fl195.1))
          refine go_retq PM170 (k := 2) (r := some (.inl 0)) (w1 := (SH, dt191)) rfl ?_
          exact ⟨dt191, rfl, hI192, hF194, (Or.inl ⟨rfl, ⟨by first | exact RSX_f fe196 fl195 (by omega) (by omega) | exact RSX_no (k := 1) (j := j179) (hp182.trans (by show gR1 _ _ _ = _; unfold gR1; rw [if_neg (by omega)])) (by decide) (by omega) (by show _ = ((TP b n j179 : Nat) : Int); omega), by first | exact True.intro | rfl | omega | trivial, by first | exact True.intro | rfl | omega | trivial, by first | exact True.intro | rfl | omega | trivial, by first | exact True.intro | rfl | omega | trivial⟩⟩)⟩
        · skip
          obtain ⟨h190_0, h190_1, h190_2, h190_3, h190_4, h190_5, h190_6, h190_7, h190_8, h190_9⟩ := h190
          obtain ⟨j197, ej198, hc199⟩ := RSX_1 h190_0 (by decide)
          have hp200 : (gC (KF 1 b n) (VF b n) (j + 1)) i = gOk j197 := hp182.trans ((show (gK (KF 1 b n) 41) j179 = gB ((gK (KF 1 b n) (141 - 100)) j179) gOk by exact gB_id.symm).trans (by rw [ej198]; exact gB_0))
          have hi201 : j197 ≤ t := by have z := (fun (h : KZ (KF 1 b n) t) => gK_M (K := (KF 1 b n)) (k := 141 - 100) (i := j179) h (by decide)) hz; rw [ej198] at z; have y := z rfl; simp only at y; omega
          clear cr184 cb185 cv186 ck187
          have cr202 := CUR_R hc199 (.inr rfl)
          have cb203 := CUR_b hc199
          have cv204 := CUR_v hc199
          have ck205 := KZ_lt (i := j197) hz
          have c1206 := (hc199).1
          have ci207 := hi201
          have r208 : 0 ≤ dt191 79 20 ∧ dt191 79 20 ≤ 8 := InvC_get hI192 79 20 rfl rfl
          refine go_toq PM170 (k := 6) (pc' := 87) (L' := [some (.inr (.inr (some 79))), none]) (st' := [.inl ((dt191 79 20) - 1), .inr (.inr (some 79))]) (w' := (SH, dt191)) rfl ?_
          have hI209 : InvC (u2 dt191 79 20 ((dt191 79 20) - 1)) := InvC_u2 hI192 (lo := 0) (hi := 8) rfl rfl rfl (by omega) (by omega)
          have hF210 : Fr [79, 84] dt (u2 dt191 79 20 ((dt191 79 20) - 1)) := Fr_u2 hF194 (by decide)
          have w211 : (u2 dt191 79 20 ((dt191 79 20) - 1)) 79 2 = dt191 79 2 := rfl
          have w212 : (u2 dt191 79 20 ((dt191 79 20) - 1)) 79 9 = dt191 79 9 := rfl
          have w213 : (u2 dt191 79 20 ((dt191 79 20) - 1)) 79 10 = dt191 79 10 := rfl
          have w214 : (u2 dt191 79 20 ((dt191 79 20) - 1)) 79 11 = dt191 79 11 := rfl
          have w215 : (u2 dt191 79 20 ((dt191 79 20) - 1)) 79 12 = dt191 79 12 := rfl
          have w216 : (u2 dt191 79 20 ((dt191 79 20) - 1)) 79 13 = dt191 79 13 := rfl
          have w217 : (u2 dt191 79 20 ((dt191 79 20) - 1)) 79 14 = dt191 79 14 := rfl
          have w218 : (u2 dt191 79 20 ((dt191 79 20) - 1)) 79 15 = dt191 79 15 := rfl
          have w219 : (u2 dt191 79 20 ((dt191 79 20) - 1)) 79 16 = dt191 79 16 := rfl
          have w220 : (u2 dt191 79 20 ((dt191 79 20) - 1)) 79 17 = dt191 79 17 := rfl
          have w221 : (u2 dt191 79 20 ((dt191 79 20) - 1)) 79 18 = dt191 79 18 := rfl
          have w222 : (u2 dt191 79 20 ((dt191 79 20) - 1)) 79 20 = (dt191 79 20) - 1 := rfl
          have hc223 : CUR 1 b n (u2 dt191 79 20 ((dt191 79 20) - 1)) j197 := CUR_sm hc199 rfl rfl rfl rfl
          refine go_smpq PM170 (L' := [some (.inr (.inr (some 79))), none]) (st' := []) (w' := (SH, (u2 dt191 79 20 ((dt191 79 20) - 1)))) rfl rfl (s_pf rfl rfl rfl rfl ⟨by omega, by omega⟩) ?_
          refine go_retq PM170 (k := 1) (r := some (.inl 1)) (w1 := (SH, (u2 dt191 79 20 ((dt191 79 20) - 1)))) rfl ?_
          exact ⟨(u2 dt191 79 20 ((dt191 79 20) - 1)), rfl, hI209, hF210, (Or.inr ⟨rfl, ⟨by exact RSX_ok (hp200.trans (by rfl)) hc223, by first | exact True.intro | rfl | omega | trivial, by first | exact True.intro | rfl | omega | trivial, by exact (InvC_get (by assumption) 79 15 rfl rfl).2, by first | exact True.intro | rfl | omega | trivial, by first | exact True.intro | rfl | omega | trivial, by first | exact True.intro | rfl | omega | trivial, by first | exact True.intro | rfl | omega | trivial, by first | exact True.intro | rfl | omega | trivial, by first | exact True.intro | rfl | omega | trivial⟩⟩)⟩
  · skip
    refine go_toq PM170 (k := 1) (pc' := 10) (L' := [some (.inr (.inr (some 79))), none]) (st' := [.inr (.inr (some 79))]) (w' := (SH, dt)) rfl ?_
    refine go_callq PM170 PM164 (Q' := _) rfl rfl rfl rfl (sp_X6_opens_o L xs sio (d + 5) dt hI b n t i (by first | exact hbb | (rw [show dt 85 = dt 85 from funext (hF 85 (by decide)), show dt 79 12 = dt 79 12 by omega]; exact hbb)) (by omega) hz ht hc hi hn5  (by first | exact True.intro | rfl | omega | trivial) (by first | exact True.intro | rfl | omega | trivial) (by first | exact True.intro | rfl | omega | trivial)) ?_
    rintro _ _ ⟨dt225, rfl, hI226, hF227, h224⟩
    refine ⟨rfl, ?_⟩
    have hF228 : Fr [79, 84] dt dt225 := Fr_tr hF hF227 (by decide)
    rcases h224 with ⟨rfl, h224⟩
    obtain ⟨h224_0, h224_1, h224_2, h224_3, h224_4, h224_5, h224_6, h224_7, h224_8, h224_9⟩ := h224
    obtain ⟨j229, ej230, hc231⟩ := RSX_1 h224_0 (by decide)
    have hp232 : (gC (KF 1 b n) (VF b n) (j + 1)) i = (gC (KF 1 b n) (VF b n) j) j229 := (rfl : (gC (KF 1 b n) (VF b n) (j + 1)) i = (gC (KF 1 b n) (VF b n) (j + 1)) i).trans ((show (gC (KF 1 b n) (VF b n) (j + 1)) i = gB (gOp i) (gC (KF 1 b n) (VF b n) j) by exact gC_n (by omega)).trans (by rw [ej230]; exact gB_0))
    have hi233 : j229 ≤ t := by have z : gOp i = (0, j229) := ej230; have y : i + 1 = j229 := congrArg Prod.snd z; omega
    clear cr0 cb0 cv0 ck0
    have cr234 := CUR_R hc231 (.inr rfl)
    have cb235 := CUR_b hc231
    have cv236 := CUR_v hc231
    have ck237 := KZ_lt (i := j229) hz
    have c1238 := (hc231).1
    have ci239 := hi233
    refine go_toq PM170 (k := 2) (pc' := 17) (L' := [some (.inr (.inr (some 79))), none]) (st' := [.inr (.inr (some 79))]) (w' := (SH, dt225)) rfl ?_
    refine go_callq PM170 PM170 (Q' := _) rfl rfl rfl rfl (IH_X6_one L xs sio (d + 2) dt225 hI226 b n t j229 (by first | exact hbb | (rw [show dt225 85 = dt 85 from funext (hF228 85 (by decide)), show dt225 79 12 = dt 79 12 by omega]; exact hbb)) (by omega) hz ht hc231 hi233 hn5  (by first | exact True.intro | rfl | omega | trivial) (by first | exact True.intro | rfl | omega | trivial) (by first | exact True.intro | rfl | omega | trivial) (by first | exact True.intro | rfl | omega | trivial)) ?_
    rintro _ _ ⟨dt241, rfl, hI242, hF243, h240⟩
    refine ⟨rfl, ?_⟩
    have hF244 : Fr [79, 84] dt dt241 := Fr_tr hF228 hF243 (by decide)
    rcases h240 with ⟨rfl, h240⟩ | ⟨rfl, h240⟩
    · skip
      obtain ⟨h240_0, h240_1, h240_2, h240_3, h240_4⟩ := h240
      have fl245 := RSX_0 h240_0 rfl
      have fe246 : (gC (KF 1 b n) (VF b n) (j + 1)) i = (gC (KF 1 b n) (VF b n) j) j229 := hp232.trans ((show (gC (KF 1 b n) (VF b n) j) j229 = gB ((gC (KF 1 b n) (VF b n) j) j229) gOk by exact gB_id.symm).trans (gB_no fl245.1))
      refine go_retq PM170 (k := 2) (r := some (.inl 0)) (w1 := (SH, dt241)) rfl ?_
      exact ⟨dt241, rfl, hI242, hF244, (Or.inl ⟨rfl, ⟨by first | exact RSX_f fe246 fl245 (by omega) (by omega) | exact RSX_no (k := 1) (j := j229) (hp232.trans (by show gR1 _ _ _ = _; unfold gR1; rw [if_neg (by omega)])) (by decide) (by omega) (by show _ = ((TP b n j229 : Nat) : Int); omega), by first | exact True.intro | rfl | omega | trivial, by first | exact True.intro | rfl | omega | trivial, by first | exact True.intro | rfl | omega | trivial, by first | exact True.intro | rfl | omega | trivial⟩⟩)⟩
    · skip
      obtain ⟨h240_0, h240_1, h240_2, h240_3, h240_4, h240_5, h240_6, h240_7, h240_8, h240_9⟩ := h240
      obtain ⟨j247, ej248, hc249⟩ := RSX_1 h240_0 (by decide)
      have hp250 : (gC (KF 1 b n) (VF b n) (j + 1)) i = gOk j247 := hp232.trans ((show (gC (KF 1 b n) (VF b n) j) j229 = gB ((gC (KF 1 b n) (VF b n) j) j229) gOk by exact gB_id.symm).trans (by rw [ej248]; exact gB_0))
      have hi251 : j247 ≤ t := by have z := (fun (h : KZ (KF 1 b n) t) => gC_M (K := (KF 1 b n)) (V := (VF b n)) h j j229) hz; rw [ej248] at z; have y := z rfl; simp only at y; omega
      clear cr234 cb235 cv236 ck237
      have cr252 := CUR_R hc249 (.inr rfl)
      have cb253 := CUR_b hc249
      have cv254 := CUR_v hc249
      have ck255 := KZ_lt (i := j247) hz
      have c1256 := (hc249).1
      have ci257 := hi251
      have r258 : 0 ≤ dt241 79 20 ∧ dt241 79 20 ≤ 8 := InvC_get hI242 79 20 rfl rfl
      refine go_toq PM170 (k := 6) (pc' := 32) (L' := [some (.inr (.inr (some 79))), none]) (st' := [.inl ((dt241 79 20) - 1), .inr (.inr (some 79))]) (w' := (SH, dt241)) rfl ?_
      have hI259 : InvC (u2 dt241 79 20 ((dt241 79 20) - 1)) := InvC_u2 hI242 (lo := 0) (hi := 8) rfl rfl rfl (by omega) (by omega)
      have hF260 : Fr [79, 84] dt (u2 dt241 79 20 ((dt241 79 20) - 1)) := Fr_u2 hF244 (by decide)
      have w261 : (u2 dt241 79 20 ((dt241 79 20) - 1)) 79 2 = dt241 79 2 := rfl
      have w262 : (u2 dt241 79 20 ((dt241 79 20) - 1)) 79 9 = dt241 79 9 := rfl
      have w263 : (u2 dt241 79 20 ((dt241 79 20) - 1)) 79 10 = dt241 79 10 := rfl
      have w264 : (u2 dt241 79 20 ((dt241 79 20) - 1)) 79 11 = dt241 79 11 := rfl
      have w265 : (u2 dt241 79 20 ((dt241 79 20) - 1)) 79 12 = dt241 79 12 := rfl
      have w266 : (u2 dt241 79 20 ((dt241 79 20) - 1)) 79 13 = dt241 79 13 := rfl
      have w267 : (u2 dt241 79 20 ((dt241 79 20) - 1)) 79 14 = dt241 79 14 := rfl
      have w268 : (u2 dt241 79 20 ((dt241 79 20) - 1)) 79 15 = dt241 79 15 := rfl
      have w269 : (u2 dt241 79 20 ((dt241 79 20) - 1)) 79 16 = dt241 79 16 := rfl
      have w270 : (u2 dt241 79 20 ((dt241 79 20) - 1)) 79 17 = dt241 79 17 := rfl
      have w271 : (u2 dt241 79 20 ((dt241 79 20) - 1)) 79 18 = dt241 79 18 := rfl
      have w272 : (u2 dt241 79 20 ((dt241 79 20) - 1)) 79 20 = (dt241 79 20) - 1 := rfl
      have hc273 : CUR 1 b n (u2 dt241 79 20 ((dt241 79 20) - 1)) j247 := CUR_sm hc249 rfl rfl rfl rfl
      refine go_smpq PM170 (L' := [some (.inr (.inr (some 79))), none]) (st' := []) (w' := (SH, (u2 dt241 79 20 ((dt241 79 20) - 1)))) rfl rfl (s_pf rfl rfl rfl rfl ⟨by omega, by omega⟩) ?_
      refine go_toq PM170 (k := 3) (pc' := 39) (L' := [some (.inr (.inr (some 79))), none]) (st' := [.inl 0, .inl 14, .inr (.inr (some 79))]) (w' := (SH, (u2 dt241 79 20 ((dt241 79 20) - 1)))) rfl ?_
      refine go_callq PM170 PM163 (Q' := _) rfl rfl rfl rfl (sp_X6_lay_g L xs sio (d + 12) (u2 dt241 79 20 ((dt241 79 20) - 1)) hI259  14 ⟨by decide, by decide⟩ 0 ⟨by decide, by decide⟩ (by first | exact True.intro | rfl | omega | trivial)) ?_
      rintro _ _ ⟨dt275, rfl, hI276, hF277, h274⟩
      refine ⟨rfl, ?_⟩
      have hF278 : Fr [79, 84] dt dt275 := Fr_tr hF260 hF277 (by decide)
      rcases h274 with ⟨rfl, h274⟩
      obtain ⟨h274_0, h274_1, h274_2, h274_3, h274_4, h274_5, h274_6, h274_7, h274_8, h274_9, h274_10⟩ := h274
      have hc279 : CUR 1 b n dt275 j247 := CUR_sm hc273 (by omega) (by omega) (by omega) (by omega)
      refine go_retq PM170 (k := 1) (r := some (.inl 1)) (w1 := (SH, dt275)) rfl ?_
      exact ⟨dt275, rfl, hI276, hF278, (Or.inr ⟨rfl, ⟨by exact RSX_ok (hp250.trans (by rfl)) hc279, by first | exact True.intro | rfl | omega | trivial, by first | exact True.intro | rfl | omega | trivial, by exact (InvC_get (by assumption) 79 15 rfl rfl).2, by first | exact True.intro | rfl | omega | trivial, by first | exact True.intro | rfl | omega | trivial, by first | exact True.intro | rfl | omega | trivial, by first | exact True.intro | rfl | omega | trivial, by first | exact True.intro | rfl | omega | trivial, by first | exact True.intro | rfl | omega | trivial⟩⟩)⟩
theorem lv_all_X6_one_g : ∀ j : Nat, (∀ (L : Nat) (xs : Nat → Int32) (sio : Option Nat) (d : Nat) (dt : Nat → Nat → Int) (hI : InvC dt) (b : Nat → Int) (n t i : Nat) (hbb : mB (dt 85) (dt 79 12) = b) (hnn : dt 79 12 = (n : Int)) (hz : KZ (KF 1 b n) t) (ht : t ≤ 500) (hc : CUR 1 b n dt i) (hi : i ≤ t) (hn5 : n ≤ 500) (h_p0 : dt 79 9 = 1) (h_p1 : dt 79 11 ≤ dt 79 15) (h_p2 : dt 79 20 + ((j : Nat) : Int) = 8) (h_p3 : 3 * j ≤ d), GO (am_XX L xs sio) (d + 10) 170 0 [some (.inr (.inr (some 79))), none] [] (SH, dt) (fun r w2 => ∃ dt2 : Nat → Nat → Int, w2 = (SH, dt2) ∧ InvC dt2 ∧ Fr [79, 84] dt dt2 ∧ ((r = some (.inl 0) ∧ (RSX 1 b n i dt2 0 ((gC (KF 1 b n) (VF b n) j) i)) ∧ (dt2 79 2 = dt 79 2) ∧ (dt2 79 9 = dt 79 9) ∧ (dt2 79 10 = dt 79 10) ∧ (dt2 79 12 = dt 79 12)) ∨ (r = some (.inl 1) ∧ (RSX 1 b n i dt2 1 ((gC (KF 1 b n) (VF b n) j) i)) ∧ (dt 79 15 + dt2 79 11 ≤ dt2 79 15 + dt 79 11) ∧ (dt 79 11 + 1 ≤ dt2 79 11) ∧ (dt2 79 15 ≤ 500) ∧ (dt2 79 2 = dt 79 2) ∧ (dt2 79 9 = dt 79 9) ∧ (dt2 79 10 = dt 79 10) ∧ (dt2 79 12 = dt 79 12) ∧ (dt2 79 17 = dt 79 17) ∧ (dt2 79 20 = dt 79 20))))) ∧ (∀ (L : Nat) (xs : Nat → Int32) (sio : Option Nat) (d : Nat) (dt : Nat → Nat → Int) (hI : InvC dt) (b : Nat → Int) (n t i : Nat) (hbb : mB (dt 85) (dt 79 12) = b) (hnn : dt 79 12 = (n : Int)) (hz : KZ (KF 1 b n) t) (ht : t ≤ 500) (hc : CUR 1 b n dt i) (hi : i ≤ t) (hn5 : n ≤ 500) (h_p0 : dt 79 9 = 1) (h_p1 : dt 79 11 ≤ dt 79 15) (h_p2 : dt 79 20 + ((j : Nat) : Int) = 8) (h_p3 : 3 * j ≤ d), GO (am_XX L xs sio) (d + 11) 169 0 [some (.inr (.inr (some 79)))] [] (SH, dt) (fun r w2 => ∃ dt2 : Nat → Nat → Int, w2 = (SH, dt2) ∧ InvC dt2 ∧ Fr [79, 84] dt dt2 ∧ ((r = some (.inl 0) ∧ (RSX 1 b n i dt2 0 ((gEv (KF 1 b n) (VF b n) j) i)) ∧ (dt2 79 2 = dt 79 2) ∧ (dt2 79 9 = dt 79 9) ∧ (dt2 79 10 = dt 79 10) ∧ (dt2 79 12 = dt 79 12)) ∨ (r = some (.inl 1) ∧ (RSX 1 b n i dt2 1 ((gEv (KF 1 b n) (VF b n) j) i)) ∧ (dt 79 15 + dt2 79 11 ≤ dt2 79 15 + dt 79 11) ∧ (dt 79 11 + 1 ≤ dt2 79 11) ∧ (dt2 79 15 ≤ 500) ∧ (dt2 79 2 = dt 79 2) ∧ (dt2 79 9 = dt 79 9) ∧ (dt2 79 10 = dt 79 10) ∧ (dt2 79 12 = dt 79 12) ∧ (dt2 79 17 = dt 79 17) ∧ (dt2 79 20 = dt 79 20))))) ∧ (∀ (L : Nat) (xs : Nat → Int32) (sio : Option Nat) (d : Nat) (dt : Nat → Nat → Int) (hI : InvC dt) (b : Nat → Int) (n t i : Nat) (hbb : mB (dt 85) (dt 79 12) = b) (hnn : dt 79 12 = (n : Int)) (hz : KZ (KF 1 b n) t) (ht : t ≤ 500) (hc : CUR 1 b n dt i) (hi : i ≤ t) (hn5 : n ≤ 500) (h_p0 : dt 79 9 = 1) (h_p1 : dt 79 11 ≤ dt 79 15) (h_p2 : dt 79 20 + ((j : Nat) : Int) = 8) (h_p3 : 3 * j ≤ d), GO (am_XX L xs sio) (d + 12) 168 0 [some (.inr (.inr (some 79)))] [] (SH, dt) (fun r w2 => ∃ dt2 : Nat → Nat → Int, w2 = (SH, dt2) ∧ InvC dt2 ∧ Fr [79, 84] dt dt2 ∧ ((r = some (.inl 0) ∧ (RSX 1 b n i dt2 0 ((gB_ (KF 1 b n) (VF b n) j) i)) ∧ (dt2 79 2 = dt 79 2) ∧ (dt2 79 9 = dt 79 9) ∧ (dt2 79 10 = dt 79 10) ∧ (dt2 79 12 = dt 79 12)) ∨ (r = some (.inl 1) ∧ (RSX 1 b n i dt2 1 ((gB_ (KF 1 b n) (VF b n) j) i)) ∧ (dt 79 15 + dt2 79 11 ≤ dt2 79 15 + dt 79 11) ∧ (dt 79 11 + 1 ≤ dt2 79 11) ∧ (dt2 79 15 ≤ 500) ∧ (dt2 79 2 = dt 79 2) ∧ (dt2 79 9 = dt 79 9) ∧ (dt2 79 10 = dt 79 10) ∧ (dt2 79 12 = dt 79 12) ∧ (dt2 79 17 = dt 79 17) ∧ (dt2 79 20 = dt 79 20)))))
  | 0 => by
    have g0 : ∀ (L : Nat) (xs : Nat → Int32) (sio : Option Nat) (d : Nat) (dt : Nat → Nat → Int) (hI : InvC dt) (b : Nat → Int) (n t i : Nat) (hbb : mB (dt 85) (dt 79 12) = b) (hnn : dt 79 12 = (n : Int)) (hz : KZ (KF 1 b n) t) (ht : t ≤ 500) (hc : CUR 1 b n dt i) (hi : i ≤ t) (hn5 : n ≤ 500) (h_p0 : dt 79 9 = 1) (h_p1 : dt 79 11 ≤ dt 79 15) (h_p2 : dt 79 20 + ((0 : Nat) : Int) = 8) (h_p3 : 3 * 0 ≤ d), GO (am_XX L xs sio) (d + 10) 170 0 [some (.inr (.inr (some 79))), none] [] (SH, dt) (fun r w2 => ∃ dt2 : Nat → Nat → Int, w2 = (SH, dt2) ∧ InvC dt2 ∧ Fr [79, 84] dt dt2 ∧ ((r = some (.inl 0) ∧ (RSX 1 b n i dt2 0 ((gC (KF 1 b n) (VF b n) 0) i)) ∧ (dt2 79 2 = dt 79 2) ∧ (dt2 79 9 = dt 79 9) ∧ (dt2 79 10 = dt 79 10) ∧ (dt2 79 12 = dt 79 12)) ∨ (r = some (.inl 1) ∧ (RSX 1 b n i dt2 1 ((gC (KF 1 b n) (VF b n) 0) i)) ∧ (dt 79 15 + dt2 79 11 ≤ dt2 79 15 + dt 79 11) ∧ (dt 79 11 + 1 ≤ dt2 79 11) ∧ (dt2 79 15 ≤ 500) ∧ (dt2 79 2 = dt 79 2) ∧ (dt2 79 9 = dt 79 9) ∧ (dt2 79 10 = dt 79 10) ∧ (dt2 79 12 = dt 79 12) ∧ (dt2 79 17 = dt 79 17) ∧ (dt2 79 20 = dt 79 20)))) := by
      intro z0 z1 z2 z3 z4 z5 z6 z7 z8 z9 z10 z11 z12 z13 z14 z15 z16 z17 z18 z19 z20
      exact sp_X6_one_g8 z0 z1 z2 z3 z4 z5 z6 z7 z8 z9 z10 z11 z12 z13 z14 z15 z16 z17 z18 (by omega)
    have g1 : ∀ (L : Nat) (xs : Nat → Int32) (sio : Option Nat) (d : Nat) (dt : Nat → Nat → Int) (hI : InvC dt) (b : Nat → Int) (n t i : Nat) (hbb : mB (dt 85) (dt 79 12) = b) (hnn : dt 79 12 = (n : Int)) (hz : KZ (KF 1 b n) t) (ht : t ≤ 500) (hc : CUR 1 b n dt i) (hi : i ≤ t) (hn5 : n ≤ 500) (h_p0 : dt 79 9 = 1) (h_p1 : dt 79 11 ≤ dt 79 15) (h_p2 : dt 79 20 + ((0 : Nat) : Int) = 8) (h_p3 : 3 * 0 ≤ d), GO (am_XX L xs sio) (d + 11) 169 0 [some (.inr (.inr (some 79)))] [] (SH, dt) (fun r w2 => ∃ dt2 : Nat → Nat → Int, w2 = (SH, dt2) ∧ InvC dt2 ∧ Fr [79, 84] dt dt2 ∧ ((r = some (.inl 0) ∧ (RSX 1 b n i dt2 0 ((gEv (KF 1 b n) (VF b n) 0) i)) ∧ (dt2 79 2 = dt 79 2) ∧ (dt2 79 9 = dt 79 9) ∧ (dt2 79 10 = dt 79 10) ∧ (dt2 79 12 = dt 79 12)) ∨ (r = some (.inl 1) ∧ (RSX 1 b n i dt2 1 ((gEv (KF 1 b n) (VF b n) 0) i)) ∧ (dt 79 15 + dt2 79 11 ≤ dt2 79 15 + dt 79 11) ∧ (dt 79 11 + 1 ≤ dt2 79 11) ∧ (dt2 79 15 ≤ 500) ∧ (dt2 79 2 = dt 79 2) ∧ (dt2 79 9 = dt 79 9) ∧ (dt2 79 10 = dt 79 10) ∧ (dt2 79 12 = dt 79 12) ∧ (dt2 79 17 = dt 79 17) ∧ (dt2 79 20 = dt 79 20)))) := fun z0 z1 z2 z3 z4 z5 z6 z7 z8 z9 z10 z11 z12 z13 z14 z15 z16 z17 z18 z19 z20 => lv_X6_every_g z0 z1 z2 z3 z4 z5 z6 z7 z8 z9 z10 z11 z12 z13 z14 z15 z16 0 g0 z17 z18 z19 z20
    have g2 : ∀ (L : Nat) (xs : Nat → Int32) (sio : Option Nat) (d : Nat) (dt : Nat → Nat → Int) (hI : InvC dt) (b : Nat → Int) (n t i : Nat) (hbb : mB (dt 85) (dt 79 12) = b) (hnn : dt 79 12 = (n : Int)) (hz : KZ (KF 1 b n) t) (ht : t ≤ 500) (hc : CUR 1 b n dt i) (hi : i ≤ t) (hn5 : n ≤ 500) (h_p0 : dt 79 9 = 1) (h_p1 : dt 79 11 ≤ dt 79 15) (h_p2 : dt 79 20 + ((0 : Nat) : Int) = 8) (h_p3 : 3 * 0 ≤ d), GO (am_XX L xs sio) (d + 12) 168 0 [some (.inr (.inr (some 79)))] [] (SH, dt) (fun r w2 => ∃ dt2 : Nat → Nat → Int, w2 = (SH, dt2) ∧ InvC dt2 ∧ Fr [79, 84] dt dt2 ∧ ((r = some (.inl 0) ∧ (RSX 1 b n i dt2 0 ((gB_ (KF 1 b n) (VF b n) 0) i)) ∧ (dt2 79 2 = dt 79 2) ∧ (dt2 79 9 = dt 79 9) ∧ (dt2 79 10 = dt 79 10) ∧ (dt2 79 12 = dt 79 12)) ∨ (r = some (.inl 1) ∧ (RSX 1 b n i dt2 1 ((gB_ (KF 1 b n) (VF b n) 0) i)) ∧ (dt 79 15 + dt2 79 11 ≤ dt2 79 15 + dt 79 11) ∧ (dt 79 11 + 1 ≤ dt2 79 11) ∧ (dt2 79 15 ≤ 500) ∧ (dt2 79 2 = dt 79 2) ∧ (dt2 79 9 = dt 79 9) ∧ (dt2 79 10 = dt 79 10) ∧ (dt2 79 12 = dt 79 12) ∧ (dt2 79 17 = dt 79 17) ∧ (dt2 79 20 = dt 79 20)))) := fun z0 z1 z2 z3 z4 z5 z6 z7 z8 z9 z10 z11 z12 z13 z14 z15 z16 z17 z18 z19 z20 => lv_X6_any_g z0 z1 z2 z3 z4 z5 z6 z7 z8 z9 z10 z11 z12 z13 z14 z15 z16 0 g1 z17 z18 z19 z20
    exact ⟨g0, g1, g2⟩
  | j + 1 => by
    obtain ⟨h_X6_one, h_X6_every, h_X6_any⟩ := lv_all_X6_one_g j
    have g0 : ∀ (L : Nat) (xs : Nat → Int32) (sio : Option Nat) (d : Nat) (dt : Nat → Nat → Int) (hI : InvC dt) (b : Nat → Int) (n t i : Nat) (hbb : mB (dt 85) (dt 79 12) = b) (hnn : dt 79 12 = (n : Int)) (hz : KZ (KF 1 b n) t) (ht : t ≤ 500) (hc : CUR 1 b n dt i) (hi : i ≤ t) (hn5 : n ≤ 500) (h_p0 : dt 79 9 = 1) (h_p1 : dt 79 11 ≤ dt 79 15) (h_p2 : dt 79 20 + (((j + 1) : Nat) : Int) = 8) (h_p3 : 3 * (j + 1) ≤ d), GO (am_XX L xs sio) (d + 10) 170 0 [some (.inr (.inr (some 79))), none] [] (SH, dt) (fun r w2 => ∃ dt2 : Nat → Nat → Int, w2 = (SH, dt2) ∧ InvC dt2 ∧ Fr [79, 84] dt dt2 ∧ ((r = some (.inl 0) ∧ (RSX 1 b n i dt2 0 ((gC (KF 1 b n) (VF b n) (j + 1)) i)) ∧ (dt2 79 2 = dt 79 2) ∧ (dt2 79 9 = dt 79 9) ∧ (dt2 79 10 = dt 79 10) ∧ (dt2 79 12 = dt 79 12)) ∨ (r = some (.inl 1) ∧ (RSX 1 b n i dt2 1 ((gC (KF 1 b n) (VF b n) (j + 1)) i)) ∧ (dt 79 15 + dt2 79 11 ≤ dt2 79 15 + dt 79 11) ∧ (dt 79 11 + 1 ≤ dt2 79 11) ∧ (dt2 79 15 ≤ 500) ∧ (dt2 79 2 = dt 79 2) ∧ (dt2 79 9 = dt 79 9) ∧ (dt2 79 10 = dt 79 10) ∧ (dt2 79 12 = dt 79 12) ∧ (dt2 79 17 = dt 79 17) ∧ (dt2 79 20 = dt 79 20)))) := by
      intro z0 z1 z2 z3 z4 z5 z6 z7 z8 z9 z10 z11 z12 z13 z14 z15 z16 z17 z18 z19 z20
      have y := lv_X6_one_g z0 z1 z2 (z3 - 3) z4 z5 z6 z7 z8 z9 z10 z11 z12 z13 z14 z15 z16 j h_X6_one h_X6_every h_X6_any z17 z18 z19 (by omega)
      rw [show z3 - 3 + 13 = z3 + 10 by omega] at y
      exact y
    have g1 : ∀ (L : Nat) (xs : Nat → Int32) (sio : Option Nat) (d : Nat) (dt : Nat → Nat → Int) (hI : InvC dt) (b : Nat → Int) (n t i : Nat) (hbb : mB (dt 85) (dt 79 12) = b) (hnn : dt 79 12 = (n : Int)) (hz : KZ (KF 1 b n) t) (ht : t ≤ 500) (hc : CUR 1 b n dt i) (hi : i ≤ t) (hn5 : n ≤ 500) (h_p0 : dt 79 9 = 1) (h_p1 : dt 79 11 ≤ dt 79 15) (h_p2 : dt 79 20 + (((j + 1) : Nat) : Int) = 8) (h_p3 : 3 * (j + 1) ≤ d), GO (am_XX L xs sio) (d + 11) 169 0 [some (.inr (.inr (some 79)))] [] (SH, dt) (fun r w2 => ∃ dt2 : Nat → Nat → Int, w2 = (SH, dt2) ∧ InvC dt2 ∧ Fr [79, 84] dt dt2 ∧ ((r = some (.inl 0) ∧ (RSX 1 b n i dt2 0 ((gEv (KF 1 b n) (VF b n) (j + 1)) i)) ∧ (dt2 79 2 = dt 79 2) ∧ (dt2 79 9 = dt 79 9) ∧ (dt2 79 10 = dt 79 10) ∧ (dt2 79 12 = dt 79 12)) ∨ (r = some (.inl 1) ∧ (RSX 1 b n i dt2 1 ((gEv (KF 1 b n) (VF b n) (j + 1)) i)) ∧ (dt 79 15 + dt2 79 11 ≤ dt2 79 15 + dt 79 11) ∧ (dt 79 11 + 1 ≤ dt2 79 11) ∧ (dt2 79 15 ≤ 500) ∧ (dt2 79 2 = dt 79 2) ∧ (dt2 79 9 = dt 79 9) ∧ (dt2 79 10 = dt 79 10) ∧ (dt2 79 12 = dt 79 12) ∧ (dt2 79 17 = dt 79 17) ∧ (dt2 79 20 = dt 79 20)))) := fun z0 z1 z2 z3 z4 z5 z6 z7 z8 z9 z10 z11 z12 z13 z14 z15 z16 z17 z18 z19 z20 => lv_X6_every_g z0 z1 z2 z3 z4 z5 z6 z7 z8 z9 z10 z11 z12 z13 z14 z15 z16 (j + 1) g0 z17 z18 z19 z20
    have g2 : ∀ (L : Nat) (xs : Nat → Int32) (sio : Option Nat) (d : Nat) (dt : Nat → Nat → Int) (hI : InvC dt) (b : Nat → Int) (n t i : Nat) (hbb : mB (dt 85) (dt 79 12) = b) (hnn : dt 79 12 = (n : Int)) (hz : KZ (KF 1 b n) t) (ht : t ≤ 500) (hc : CUR 1 b n dt i) (hi : i ≤ t) (hn5 : n ≤ 500) (h_p0 : dt 79 9 = 1) (h_p1 : dt 79 11 ≤ dt 79 15) (h_p2 : dt 79 20 + (((j + 1) : Nat) : Int) = 8) (h_p3 : 3 * (j + 1) ≤ d), GO (am_XX L xs sio) (d + 12) 168 0 [some (.inr (.inr (some 79)))] [] (SH, dt) (fun r w2 => ∃ dt2 : Nat → Nat → Int, w2 = (SH, dt2) ∧ InvC dt2 ∧ Fr [79, 84] dt dt2 ∧ ((r = some (.inl 0) ∧ (RSX 1 b n i dt2 0 ((gB_ (KF 1 b n) (VF b n) (j + 1)) i)) ∧ (dt2 79 2 = dt 79 2) ∧ (dt2 79 9 = dt 79 9) ∧ (dt2 79 10 = dt 79 10) ∧ (dt2 79 12 = dt 79 12)) ∨ (r = some (.inl 1) ∧ (RSX 1 b n i dt2 1 ((gB_ (KF 1 b n) (VF b n) (j + 1)) i)) ∧ (dt 79 15 + dt2 79 11 ≤ dt2 79 15 + dt 79 11) ∧ (dt 79 11 + 1 ≤ dt2 79 11) ∧ (dt2 79 15 ≤ 500) ∧ (dt2 79 2 = dt 79 2) ∧ (dt2 79 9 = dt 79 9) ∧ (dt2 79 10 = dt 79 10) ∧ (dt2 79 12 = dt 79 12) ∧ (dt2 79 17 = dt 79 17) ∧ (dt2 79 20 = dt 79 20)))) := fun z0 z1 z2 z3 z4 z5 z6 z7 z8 z9 z10 z11 z12 z13 z14 z15 z16 z17 z18 z19 z20 => lv_X6_any_g z0 z1 z2 z3 z4 z5 z6 z7 z8 z9 z10 z11 z12 z13 z14 z15 z16 (j + 1) g1 z17 z18 z19 z20
    exact ⟨g0, g1, g2⟩
theorem sp_X6_any_g0 (L : Nat) (xs : Nat → Int32) (sio : Option Nat) (d : Nat) (dt : Nat → Nat → Int) (hI : InvC dt) (b : Nat → Int) (n t i : Nat) (hbb : mB (dt 85) (dt 79 12) = b) (hnn : dt 79 12 = (n : Int)) (hz : KZ (KF 1 b n) t) (ht : t ≤ 500) (hc : CUR 1 b n dt i) (hi : i ≤ t) (hn5 : n ≤ 500) (h_p0 : dt 79 9 = 1) (h_p1 : dt 79 11 ≤ dt 79 15) (h_p2 : dt 79 20 = 0) : GO (am_XX L xs sio) (d + 36) 168 0 [some (.inr (.inr (some 79)))] [] (SH, dt) (fun r w2 => ∃ dt2 : Nat → Nat → Int, w2 = (SH, dt2) ∧ InvC dt2 ∧ Fr [79, 84] dt dt2 ∧ ((r = some (.inl 0) ∧ (RSX 1 b n i dt2 0 ((gB_ (KF 1 b n) (VF b n) 8) i)) ∧ (dt2 79 2 = dt 79 2) ∧ (dt2 79 9 = dt 79 9) ∧ (dt2 79 10 = dt 79 10) ∧ (dt2 79 12 = dt 79 12)) ∨ (r = some (.inl 1) ∧ (RSX 1 b n i dt2 1 ((gB_ (KF 1 b n) (VF b n) 8) i)) ∧ (dt 79 15 + dt2 79 11 ≤ dt2 79 15 + dt 79 11) ∧ (dt 79 11 + 1 ≤ dt2 79 11) ∧ (dt2 79 15 ≤ 500) ∧ (dt2 79 2 = dt 79 2) ∧ (dt2 79 9 = dt 79 9) ∧ (dt2 79 10 = dt 79 10) ∧ (dt2 79 12 = dt 79 12) ∧ (dt2 79 17 = dt 79 17) ∧ (dt2 79 20 = dt 79 20)))) := (lv_all_X6_one_g 8).2.2 L xs sio (d + 24) dt hI b n t i hbb hnn hz ht hc hi hn5 h_p0 h_p1 (by omega) (by omega)
