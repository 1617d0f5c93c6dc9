set_option maxHeartbeats 1500000 in
set_option maxRecDepth 20000 in
theorem lv_X6_every_g (L : Nat) (xs : Nat → Int32) (sio : Option Nat) (d : Nat) (dt : Nat → Nat → Int) (hI : InvC dt) (b : Nat → Int) (n t i : Nat) (hbb : mB (dt 85) (dt 79 12) = b) (hnn : dt 79 12 = (n : Int)) (hz : KZ (KF 1 b n) t) (ht : t ≤ 500) (hc : CUR 1 b n dt i) (hi : i ≤ t) (hn5 : n ≤ 500) (j : Nat) (IH_X6_one : ∀ (L : Nat) (xs : Nat → Int32) (sio : Option Nat) (d : Nat) (dt : Nat → Nat → Int) (hI : InvC dt) (b : Nat → Int) (n t i : Nat) (hbb : mB (dt 85) (dt 79 12) = b) (hnn : dt 79 12 = (n : Int)) (hz : KZ (KF 1 b n) t) (ht : t ≤ 500) (hc : CUR 1 b n dt i) (hi : i ≤ t) (hn5 : n ≤ 500) (h_p0 : dt 79 9 = 1) (h_p1 : dt 79 11 ≤ dt 79 15) (h_p2 : dt 79 20 + ((j : Nat) : Int) = 8) (h_p3 : 3 * j ≤ d), GO (am_XX L xs sio) (d + 10) 170 0 [some (.inr (.inr (some 79))), none] [] (SH, dt) (fun r w2 => ∃ dt2 : Nat → Nat → Int, w2 = (SH, dt2) ∧ InvC dt2 ∧ Fr [79, 84] dt dt2 ∧ ((r = some (.inl 0) ∧ (RSX 1 b n i dt2 0 ((gC (KF 1 b n) (VF b n) j) i)) ∧ (dt2 79 2 = dt 79 2) ∧ (dt2 79 9 = dt 79 9) ∧ (dt2 79 10 = dt 79 10) ∧ (dt2 79 12 = dt 79 12)) ∨ (r = some (.inl 1) ∧ (RSX 1 b n i dt2 1 ((gC (KF 1 b n) (VF b n) j) i)) ∧ (dt 79 15 + dt2 79 11 ≤ dt2 79 15 + dt 79 11) ∧ (dt 79 11 + 1 ≤ dt2 79 11) ∧ (dt2 79 15 ≤ 500) ∧ (dt2 79 2 = dt 79 2) ∧ (dt2 79 9 = dt 79 9) ∧ (dt2 79 10 = dt 79 10) ∧ (dt2 79 12 = dt 79 12) ∧ (dt2 79 17 = dt 79 17) ∧ (dt2 79 20 = dt 79 20)))))   (h_p0 : dt 79 9 = 1) (h_p1 : dt 79 11 ≤ dt 79 15) (h_p2 : dt 79 20 + ((j : Nat) : Int) = 8) (h_p3 : 3 * j ≤ d) : GO (am_XX L xs sio) (d + 11) 169 0 [some (.inr (.inr (some 79)))] [] (SH, dt) (fun r w2 => ∃ dt2 : Nat → Nat → Int, w2 = (SH, dt2) ∧ InvC dt2 ∧ Fr [79, 84] dt dt2 ∧ ((r = some (.inl 0) ∧ (RSX 1 b n i dt2 0 ((gEv (KF 1 b n) (VF b n) j) i)) ∧ (dt2 79 2 = dt 79 2) ∧ (dt2 79 9 = dt 79 9) ∧ (dt2 79 10 = dt 79 10) ∧ (dt2 79 12 = dt 79 12)) ∨ (r = some (.inl 1) ∧ (RSX 1 b n i dt2 1 ((gEv (KF 1 b n) (VF b n) j) i)) ∧ (dt 79 15 + dt2 79 11 ≤ dt2 79 15 + dt 79 11) ∧ (dt 79 11 + 1 ≤ dt2 79 11) ∧ (dt2 79 15 ≤ 500) ∧ (dt2 79 2 = dt 79 2) ∧ (dt2 79 9 = dt 79 9) ∧ (dt2 79 10 = dt 79 10) ∧ (dt2 79 12 = dt 79 12) ∧ (dt2 79 17 = dt 79 17) ∧ (dt2 79 20 = dt 79 20)))) := by
  have hF : Fr [79, 84] dt dt := Fr_refl
  have r1 : 0 ≤ dt 79 15 ∧ dt 79 15 ≤ 500 := InvC_get hI 79 15 rfl rfl
  have r2 : 0 ≤ dt 79 11 ∧ dt 79 11 ≤ 510 := InvC_get hI 79 11 rfl rfl
  have r3 : 0 ≤ dt 79 10 ∧ dt 79 10 ≤ 24 := InvC_get hI 79 10 rfl rfl
  have cr0 := CUR_R hc (.inr rfl)
  have cb0 := CUR_b hc
  have cv0 := CUR_v hc
  have ck0 := KZ_lt (i := i) hz
  have c10 := hc.1
  refine go_toq PM169 (k := 1) (pc' := 1) (L' := [some (.inr (.inr (some 79)))]) (st' := [.inr (.inr (some 79))]) (w' := (SH, dt)) rfl ?_
  refine go_callq PM169 PM170 (Q' := _) rfl rfl rfl rfl (IH_X6_one L xs sio (d + 0) dt hI b n t i (by first | exact hbb | (rw [show dt 85 = dt 85 from funext (hF 85 (by decide)), show dt 79 12 = dt 79 12 by omega]; exact hbb)) (by omega) hz ht hc hi hn5  (by first | exact True.intro | rfl | omega | trivial) (by first | exact True.intro | rfl | omega | trivial) (by first | exact True.intro | rfl | omega | trivial) (by first | exact True.intro | rfl | omega | trivial)) ?_
  rintro _ _ ⟨dt5, rfl, hI6, hF7, h4⟩
  refine ⟨rfl, ?_⟩
  have hF8 : Fr [79, 84] dt dt5 := Fr_tr hF hF7 (by decide)
  rcases h4 with ⟨rfl, h4⟩ | ⟨rfl, h4⟩
  · skip
    obtain ⟨h4_0, h4_1, h4_2, h4_3, h4_4⟩ := h4
    have fl9 := RSX_0 h4_0 rfl
    have fe10 : (gEv (KF 1 b n) (VF b n) j) i = (gC (KF 1 b n) (VF b n) j) i := (rfl : (gEv (KF 1 b n) (VF b n) j) i = (gEv (KF 1 b n) (VF b n) j) i).trans ((show (gEv (KF 1 b n) (VF b n) j) i = gB ((gC (KF 1 b n) (VF b n) j) i) (gN (KF 1 b n) (gC (KF 1 b n) (VF b n) j) 600) by rfl).trans (gB_no fl9.1))
    refine go_retq PM169 (k := 2) (r := some (.inl 0)) (w1 := (SH, dt5)) rfl ?_
    exact ⟨dt5, rfl, hI6, hF8, (Or.inl ⟨rfl, ⟨by exact RSX_f fe10 fl9 (by omega) (by omega), by first | exact True.intro | rfl | omega | trivial, by first | exact True.intro | rfl | omega | trivial, by first | exact True.intro | rfl | omega | trivial, by first | exact True.intro | rfl | omega | trivial⟩⟩)⟩
  · skip
    obtain ⟨h4_0, h4_1, h4_2, h4_3, h4_4, h4_5, h4_6, h4_7, h4_8, h4_9⟩ := h4
    obtain ⟨j11, ej12, hc13⟩ := RSX_1 h4_0 (by decide)
    have hp14 : (gEv (KF 1 b n) (VF b n) j) i = (gN (KF 1 b n) (gC (KF 1 b n) (VF b n) j) 600) j11 := (rfl : (gEv (KF 1 b n) (VF b n) j) i = (gEv (KF 1 b n) (VF b n) j) i).trans ((show (gEv (KF 1 b n) (VF b n) j) i = gB ((gC (KF 1 b n) (VF b n) j) i) (gN (KF 1 b n) (gC (KF 1 b n) (VF b n) j) 600) by rfl).trans (by rw [ej12]; exact gB_0))
    have hi15 : j11 ≤ t := by have z := (fun (h : KZ (KF 1 b n) t) => gC_M (K := (KF 1 b n)) (V := (VF b n)) h j i) hz; rw [ej12] at z; have y := z rfl; simp only at y; omega
    clear cr0 cb0 cv0 ck0
    have cr16 := CUR_R hc13 (.inr rfl)
    have cb17 := CUR_b hc13
    have cv18 := CUR_v hc13
    have ck19 := KZ_lt (i := j11) hz
    have c120 := (hc13).1
    have ci21 := hi15
    refine go_toq PM169 (k := 1) (pc' := 9) (L' := [some (.inr (.inr (some 79)))]) (st' := []) (w' := (SH, dt5)) rfl ?_
    have loop78 : ∀ (k_ : Nat) (dt65 : Nat → Nat → Int) (hI66 : InvC dt65) (hF67 : Fr [79, 84] dt dt65) (i68 : ∃ q : Nat, (gEv (KF 1 b n) (VF b n) j) i = (gN (KF 1 b n) (gC (KF 1 b n) (VF b n) j) 600) q ∧ CUR 1 b n dt65 q ∧ q ≤ t) (i69 : dt 79 15 + dt65 79 11 ≤ dt65 79 15 + dt 79 11) (i70 : dt 79 11 + 1 ≤ dt65 79 11) (i71 : dt65 79 15 ≤ 500) (i72 : dt65 79 2 = dt 79 2) (i73 : dt65 79 9 = dt 79 9) (i74 : dt65 79 10 = dt 79 10) (i75 : dt65 79 12 = dt 79 12) (i76 : dt65 79 17 = dt 79 17) (i77 : dt65 79 20 = dt 79 20), (502 - dt65 79 15).toNat < k_ → GO (am_XX L xs sio) (d + 11) 169 9 [some (.inr (.inr (some 79)))] [] (SH, dt65) (fun r w2 => ∃ dt2 : Nat → Nat → Int, w2 = (SH, dt2) ∧ InvC dt2 ∧ Fr [79, 84] dt dt2 ∧ ((r = some (.inl 0) ∧ (RSX 1 b n i dt2 0 ((gEv (KF 1 b n) (VF b n) j) i)) ∧ (dt2 79 2 = dt 79 2) ∧ (dt2 79 9 = dt 79 9) ∧ (dt2 79 10 = dt 79 10) ∧ (dt2 79 12 = dt 79 12)) ∨ (r = some (.inl 1) ∧ (RSX 1 b n i dt2 1 ((gEv (KF 1 b n) (VF b n) j) i)) ∧ (dt 79 15 + dt2 79 11 ≤ dt2 79 15 + dt 79 11) ∧ (dt 79 11 + 1 ≤ dt2 79 11) ∧ (dt2 79 15 ≤ 500) ∧ (dt2 79 2 = dt 79 2) ∧ (dt2 79 9 = dt 79 9) ∧ (dt2 79 10 = dt 79 10) ∧ (dt2 79 12 = dt 79 12) ∧ (dt2 79 17 = dt 79 17) ∧ (dt2 79 20 = dt 79 20)))) := by
      intro k_
      induction k_ with
      | zero => intro dt65 hI66 hF67 i68 i69 i70 i71 i72 i73 i74 i75 i76 i77 hm; exact absurd hm (Nat.not_lt_zero _)
      | succ k_ ih_loop78 =>
        intro dt65 hI66 hF67 i68 i69 i70 i71 i72 i73 i74 i75 i76 i77 hm
        clear cr16 cb17 cv18 ck19
        obtain ⟨gq, hpq, hcq, hiq⟩ := i68
        have crq := CUR_R hcq (.inr rfl)
        have cbq := CUR_b hcq
        have cvq := CUR_v hcq
        have ckq := KZ_lt (i := gq) hz
        have c1q := hcq.1
        have r79 : (-2147483648) ≤ dt65 79 14 ∧ dt65 79 14 ≤ 2147483647 := InvC_get hI66 79 14 rfl rfl
        refine go_ifq PM169 (k := 3) (p1 := 40) (p2 := 17) (L' := [some (.inr (.inr (some 79)))]) (st' := []) (w' := (SH, dt65)) rfl (c_ne (a := dt65 79 14) (b := 5) (by first | exact bnd r79 (by decide) (by decide) | exact ⟨by omega, by omega⟩) ⟨by decide, by decide⟩) (fun c80 => ?_) (fun c80 => ?_)
        · skip
          refine go_retq PM169 (k := 1) (r := some (.inl 1)) (w1 := (SH, dt65)) rfl ?_
          exact ⟨dt65, rfl, hI66, hF67, (Or.inr ⟨rfl, ⟨by exact RSX_ok (hpq.trans (by show gN _ _ 600 gq = _; rw [gN_u (gC_M hz _) (by omega) (by omega), if_neg (by omega)])) hcq, by first | exact True.intro | rfl | omega | trivial, by first | exact True.intro | rfl | omega | trivial, by exact (InvC_get (by assumption) 79 15 rfl rfl).2, by first | exact True.intro | rfl | omega | trivial, by first | exact True.intro | rfl | omega | trivial, by first | exact True.intro | rfl | omega | trivial, by first | exact True.intro | rfl | omega | trivial, by first | exact True.intro | rfl | omega | trivial, by first | exact True.intro | rfl | omega | trivial⟩⟩)⟩
        · skip
          refine go_toq PM169 (k := 1) (pc' := 18) (L' := [some (.inr (.inr (some 79)))]) (st' := [.inr (.inr (some 79))]) (w' := (SH, dt65)) rfl ?_
          refine go_callq PM169 PM159 (Q' := _) rfl rfl rfl rfl (sp_X6_next0_p1 L xs sio (d + 4) dt65 hI66   (by first | exact True.intro | rfl | omega | trivial) (by first | exact True.intro | rfl | omega | trivial)) ?_
          rintro _ _ ⟨dt82, rfl, hI83, hF84, h81⟩
          refine ⟨rfl, ?_⟩
          have hF85 : Fr [79, 84] dt dt82 := Fr_tr hF67 hF84 (by decide)
          rcases h81 with ⟨rfl, h81⟩
          obtain ⟨h81_0, h81_1, h81_2, h81_3, h81_4, h81_5, h81_6, h81_7, h81_8⟩ := h81
          have hq86 := h81_0
          rw [show dt65 85 = dt 85 from funext (hF67 85 (by decide)), show dt65 79 12 = dt 79 12 by omega, hbb, show (dt 79 12).toNat = n by omega] at hq86
          have hc87 : CUR 1 b n dt82 (gq + 1) := CUR_n hcq hq86
          have hi88 : gq + 1 ≤ t := by omega
          have av89 : dt65 79 15 + 1 ≤ dt65 79 13 := by omega
          have hp90 : (gEv (KF 1 b n) (VF b n) j) i = (fun i => gB (gC (KF 1 b n) (VF b n) j i) (gN (KF 1 b n) (gC (KF 1 b n) (VF b n) j) 600)) (gq + 1) := hpq.trans (by show gN _ _ 600 gq = _; rw [gN_u (gC_M hz _) (by omega) (by omega)]; first | (rw [if_pos (by omega)]; done) | (rw [if_pos (by omega)]; rfl))
          clear crq cbq cvq ckq
          have cr91 := CUR_R hc87 (.inr rfl)
          have cb92 := CUR_b hc87
          have cv93 := CUR_v hc87
          have ck94 := KZ_lt (i := (gq + 1)) hz
          have c195 := (hc87).1
          have ci96 := hi88
          refine go_toq PM169 (k := 1) (pc' := 22) (L' := [some (.inr (.inr (some 79)))]) (st' := [.inr (.inr (some 79))]) (w' := (SH, dt82)) rfl ?_
          refine go_callq PM169 PM170 (Q' := _) rfl rfl rfl rfl (IH_X6_one L xs sio (d + 0) dt82 hI83 b n t (gq + 1) (by first | exact hbb | (rw [show dt82 85 = dt 85 from funext (hF85 85 (by decide)), show dt82 79 12 = dt 79 12 by omega]; exact hbb)) (by omega) hz ht hc87 hi88 hn5  (by first | exact True.intro | rfl | omega | trivial) (by first | exact True.intro | rfl | omega | trivial) (by first | exact True.intro | rfl | omega | trivial) (by first | exact True.intro | rfl | omega | trivial)) ?_
          rintro _ _ ⟨dt98, rfl, hI99, hF100, h97⟩
          refine ⟨rfl, ?_⟩
          have hF101 : Fr [79, 84] dt dt98 := Fr_tr hF85 hF100 (by decide)
          rcases h97 with ⟨rfl, h97⟩ | ⟨rfl, h97⟩
          · skip
            obtain ⟨h97_0, h97_1, h97_2, h97_3, h97_4⟩ := h97
            have fl102 := RSX_0 h97_0 rfl
            have fe103 : (gEv (KF 1 b n) (VF b n) j) i = (gC (KF 1 b n) (VF b n) j) (gq + 1) := hp90.trans ((show (fun i => gB (gC (KF 1 b n) (VF b n) j i) (gN (KF 1 b n) (gC (KF 1 b n) (VF b n) j) 600)) (gq + 1) = gB ((gC (KF 1 b n) (VF b n) j) (gq + 1)) (gN (KF 1 b n) (gC (KF 1 b n) (VF b n) j) 600) by rfl).trans (gB_no fl102.1))
            refine go_retq PM169 (k := 2) (r := some (.inl 0)) (w1 := (SH, dt98)) rfl ?_
            exact ⟨dt98, rfl, hI99, hF101, (Or.inl ⟨rfl, ⟨by exact RSX_f fe103 fl102 (by omega) (by omega), by first | exact True.intro | rfl | omega | trivial, by first | exact True.intro | rfl | omega | trivial, by first | exact True.intro | rfl | omega | trivial, by first | exact True.intro | rfl | omega | trivial⟩⟩)⟩
          · skip
            obtain ⟨h97_0, h97_1, h97_2, h97_3, h97_4, h97_5, h97_6, h97_7, h97_8, h97_9⟩ := h97
            obtain ⟨j104, ej105, hc106⟩ := RSX_1 h97_0 (by decide)
            have hp107 : (gEv (KF 1 b n) (VF b n) j) i = (gN (KF 1 b n) (gC (KF 1 b n) (VF b n) j) 600) j104 := hp90.trans ((show (fun i => gB (gC (KF 1 b n) (VF b n) j i) (gN (KF 1 b n) (gC (KF 1 b n) (VF b n) j) 600)) (gq + 1) = gB ((gC (KF 1 b n) (VF b n) j) (gq + 1)) (gN (KF 1 b n) (gC (KF 1 b n) (VF b n) j) 600) by rfl).trans (by rw [ej105]; exact gB_0))
            have hi108 : j104 ≤ t := by have z := (fun (h : KZ (KF 1 b n) t) => gC_M (K := (KF 1 b n)) (V := (VF b n)) h j (gq + 1)) hz; rw [ej105] at z; have y := z rfl; simp only at y; omega
            clear cr91 cb92 cv93 ck94
            have cr109 := CUR_R hc106 (.inr rfl)
            have cb110 := CUR_b hc106
            have cv111 := CUR_v hc106
            have ck112 := KZ_lt (i := j104) hz
            have c1113 := (hc106).1
            have ci114 := hi108
            refine go_toq PM169 (k := 4) (pc' := 34) (L' := [some (.inr (.inr (some 79)))]) (st' := [.inl 0, .inl 15, .inr (.inr (some 79))]) (w' := (SH, dt98)) rfl ?_
            refine go_callq PM169 PM163 (Q' := _) rfl rfl rfl rfl (sp_X6_lay_g L xs sio (d + 10) dt98 hI99  15 ⟨by decide, by decide⟩ 0 ⟨by decide, by decide⟩ (by first | exact True.intro | rfl | omega | trivial)) ?_
            rintro _ _ ⟨dt116, rfl, hI117, hF118, h115⟩
            refine ⟨rfl, ?_⟩
            have hF119 : Fr [79, 84] dt dt116 := Fr_tr hF101 hF118 (by decide)
            rcases h115 with ⟨rfl, h115⟩
            obtain ⟨h115_0, h115_1, h115_2, h115_3, h115_4, h115_5, h115_6, h115_7, h115_8, h115_9, h115_10⟩ := h115
            have hc120 : CUR 1 b n dt116 j104 := CUR_sm hc106 (by omega) (by omega) (by omega) (by omega)
            refine go_toq PM169 (k := 1) (pc' := 9) (L' := [some (.inr (.inr (some 79)))]) (st' := []) (w' := (SH, dt116)) rfl ?_
            exact GO.le (ih_loop78 dt116 hI117 hF119 (by exact ⟨_, hp107, hc120, hi108⟩) (by first | omega | exact ⟨_, hp107, hc120, hi108⟩) (by first | omega | exact ⟨_, hp107, hc120, hi108⟩) (by first | omega | exact ⟨_, hp107, hc120, hi108⟩) (by first | omega | exact ⟨_, hp107, hc120, hi108⟩) (by first | omega | exact ⟨_, hp107, hc120, hi108⟩) (by first | omega | exact ⟨_, hp107, hc120, hi108⟩) (by first | omega | exact ⟨_, hp107, hc120, hi108⟩) (by first | omega | exact ⟨_, hp107, hc120, hi108⟩) (by first | omega | exact ⟨_, hp107, hc120, hi108⟩) (by omega)) ⟨.inl rfl, trivial⟩
    exact GO.le (loop78 _ dt5 hI6 hF8 (by exact ⟨_, hp14, hc13, hi15⟩) (by first | omega | exact ⟨_, hp14, hc13, hi15⟩) (by first | omega | exact ⟨_, hp14, hc13, hi15⟩) (by first | omega | exact ⟨_, hp14, hc13, hi15⟩) (by first | omega | exact ⟨_, hp14, hc13, hi15⟩) (by first | omega | exact ⟨_, hp14, hc13, hi15⟩) (by first | omega | exact ⟨_, hp14, hc13, hi15⟩) (by first | omega | exact ⟨_, hp14, hc13, hi15⟩) (by first | omega | exact ⟨_, hp14, hc13, hi15⟩) (by first | omega | exact ⟨_, hp14, hc13, hi15⟩) (Nat.lt_succ_self _)) ⟨.inl rfl, trivial⟩
set_option maxHeartbeats 1500000 in
set_option maxRecDepth 20000 in
theorem lv_X6_any_g (L : Nat) (xs : Nat → Int32) (sio : Option Nat) (d : Nat) (dt : Nat → Nat → Int) (hI : InvC dt) (b : Nat → Int) (n t i : Nat) (hbb : mB (dt 85) (dt 79 12) = b) (hnn : dt 79 12 = (n : Int)) (hz : KZ (KF 1 b n) t) (ht : t ≤ 500) (hc : CUR 1 b n dt i) (hi : i ≤ t) (hn5 : n ≤ 500) (j : Nat) (IH_X6_every : ∀ (L : Nat) (xs : Nat → Int32) (sio : Option Nat) (d : Nat) (dt : Nat → Nat → Int) (hI : InvC dt) (b : Nat → Int) (n t i : Nat) (hbb : mB (dt 85) (dt 79 12) = b) (hnn : dt 79 12 = (n : Int)) (hz : KZ (KF 1 b n) t) (ht : t ≤ 500) (hc : CUR 1 b n dt i) (hi : i ≤ t) (hn5 : n ≤ 500) (h_p0 : dt 79 9 = 1) (h_p1 : dt 79 11 ≤ dt 79 15) (h_p2 : dt 79 20 + ((j : Nat) : Int) = 8) (h_p3 : 3 * j ≤ d), GO (am_XX L xs sio) (d + 11) 169 0 [some (.inr (.inr (some 79)))] [] (SH, dt) (fun r w2 => ∃ dt2 : Nat → Nat → Int, w2 = (SH, dt2) ∧ InvC dt2 ∧ Fr [79, 84] dt dt2 ∧ ((r = some (.inl 0) ∧ (RSX 1 b n i dt2 0 ((gEv (KF 1 b n) (VF b n) j) i)) ∧ (dt2 79 2 = dt 79 2) ∧ (dt2 79 9 = dt 79 9) ∧ (dt2 79 10 = dt 79 10) ∧ (dt2 79 12 = dt 79 12)) ∨ (r = some (.inl 1) ∧ (RSX 1 b n i dt2 1 ((gEv (KF 1 b n) (VF b n) j) i)) ∧ (dt 79 15 + dt2 79 11 ≤ dt2 79 15 + dt 79 11) ∧ (dt 79 11 + 1 ≤ dt2 79 11) ∧ (dt2 79 15 ≤ 500) ∧ (dt2 79 2 = dt 79 2) ∧ (dt2 79 9 = dt 79 9) ∧ (dt2 79 10 = dt 79 10) ∧ (dt2 79 12 = dt 79 12) ∧ (dt2 79 17 = dt 79 17) ∧ (dt2 79 20 = dt 79 20)))))   (h_p0 : dt 79 9 = 1) (h_p1 : dt 79 11 ≤ dt 79 15) (h_p2 : dt 79 20 + ((j : Nat) : Int) = 8) (h_p3 : 3 * j ≤ d) : GO (am_XX L xs sio) (d + 12) 168 0 [some (.inr (.inr (some 79)))] [] (SH, dt) (fun r w2 => ∃ dt2 : Nat → Nat → Int, w2 = (SH, dt2) ∧ InvC dt2 ∧ Fr [79, 84] dt dt2 ∧ ((r = some (.inl 0) ∧ (RSX 1 b n i dt2 0 ((gB_ (KF 1 b n) (VF b n) j) i)) ∧ (dt2 79 2 = dt 79 2) ∧ (dt2 79 9 = dt 79 9) ∧ (dt2 79 10 = dt 79 10) ∧ (dt2 79 12 = dt 79 12)) ∨ (r = some (.inl 1) ∧ (RSX 1 b n i dt2 1 ((gB_ (KF 1 b n) (VF b n) j) i)) ∧ (dt 79 15 + dt2 79 11 ≤ dt2 79 15 + dt 79 11) ∧ (dt 79 11 + 1 ≤ dt2 79 11) ∧ (dt2 79 15 ≤ 500) ∧ (dt2 79 2 = dt 79 2) ∧ (dt2 79 9 = dt 79 9) ∧ (dt2 79 10 = dt 79 10) ∧ (dt2 79 12 = dt 79 12) ∧ (dt2 79 17 = dt 79 17) ∧ (dt2 79 20 = dt 79 20)))) := by
  have hF : Fr [79, 84] dt dt := Fr_refl
  have r1 : 0 ≤ dt 79 15 ∧ dt 79 15 ≤ 500 := InvC_get hI 79 15 rfl rfl
  have r2 : 0 ≤ dt 79 11 ∧ dt 79 11 ≤ 510 := InvC_get hI 79 11 rfl rfl
  have r3 : 0 ≤ dt 79 10 ∧ dt 79 10 ≤ 24 := InvC_get hI 79 10 rfl rfl
  have cr0 := CUR_R hc (.inr rfl)
  have cb0 := CUR_b hc
  have cv0 := CUR_v hc
  have ck0 := KZ_lt (i := i) hz
  have c10 := hc.1
  refine go_toq PM168 (k := 1) (pc' := 1) (L' := [some (.inr (.inr (some 79)))]) (st' := [.inr (.inr (some 79))]) (w' := (SH, dt)) rfl ?_
  refine go_callq PM168 PM169 (Q' := _) rfl rfl rfl rfl (IH_X6_every L xs sio (d + 0) dt hI b n t i (by first | exact hbb | (rw [show dt 85 = dt 85 from funext (hF 85 (by decide)), show dt 79 12 = dt 79 12 by omega]; exact hbb)) (by omega) hz ht hc hi hn5  (by first | exact True.intro | rfl | omega | trivial) (by first | exact True.intro | rfl | omega | trivial) (by first | exact True.intro | rfl | omega | trivial) (by first | exact True.intro | rfl | omega | trivial)) ?_
  rintro _ _ ⟨dt5, rfl, hI6, hF7, h4⟩
  refine ⟨rfl, ?_⟩
  have hF8 : Fr [79, 84] dt dt5 := Fr_tr hF hF7 (by decide)
  rcases h4 with ⟨rfl, h4⟩ | ⟨rfl, h4⟩
  · skip
    obtain ⟨h4_0, h4_1, h4_2, h4_3, h4_4⟩ := h4
    have fl9 := RSX_0 h4_0 rfl
    have fe10 : (gB_ (KF 1 b n) (VF b n) j) i = (gEv (KF 1 b n) (VF b n) j) i := (rfl : (gB_ (KF 1 b n) (VF b n) j) i = (gB_ (KF 1 b n) (VF b n) j) i).trans ((show (gB_ (KF 1 b n) (VF b n) j) i = gB ((gEv (KF 1 b n) (VF b n) j) i) (gO (KF 1 b n) (gC (KF 1 b n) (VF b n) j) 600) by exact gB_NO' hz (by omega)).trans (gB_no fl9.1))
    refine go_retq PM168 (k := 2) (r := some (.inl 0)) (w1 := (SH, dt5)) rfl ?_
    exact ⟨dt5, rfl, hI6, hF8, (Or.inl ⟨rfl, ⟨by exact RSX_f fe10 fl9 (by omega) (by omega), by first | exact True.intro | rfl | omega | trivial, by first | exact True.intro | rfl | omega | trivial, by first | exact True.intro | rfl | omega | trivial, by first | exact True.intro | rfl | omega | trivial⟩⟩)⟩
  · skip
    obtain ⟨h4_0, h4_1, h4_2, h4_3, h4_4, h4_5, h4_6, h4_7, h4_8, h4_9⟩ := h4
    obtain ⟨j11, ej12, hc13⟩ := RSX_1 h4_0 (by decide)
    have hp14 : (gB_ (KF 1 b n) (VF b n) j) i = (gO (KF 1 b n) (gC (KF 1 b n) (VF b n) j) 600) j11 := (rfl : (gB_ (KF 1 b n) (VF b n) j) i = (gB_ (KF 1 b n) (VF b n) j) i).trans ((show (gB_ (KF 1 b n) (VF b n) j) i = gB ((gEv (KF 1 b n) (VF b n) j) i) (gO (KF 1 b n) (gC (KF 1 b n) (VF b n) j) 600) by exact gB_NO' hz (by omega)).trans (by rw [ej12]; exact gB_0))
    have hi15 : j11 ≤ t := by have z := gEv_M (K := (KF 1 b n)) (V := (VF b n)) (d := j) (i := i) hz; rw [ej12] at z; have y := z rfl; simp only at y; omega
    clear cr0 cb0 cv0 ck0
    have cr16 := CUR_R hc13 (.inr rfl)
    have cb17 := CUR_b hc13
    have cv18 := CUR_v hc13
    have ck19 := KZ_lt (i := j11) hz
    have c120 := (hc13).1
    have ci21 := hi15
    refine go_toq PM168 (k := 1) (pc' := 9) (L' := [some (.inr (.inr (some 79)))]) (st' := []) (w' := (SH, dt5)) rfl ?_
    have loop78 : ∀ (k_ : Nat) (dt65 : Nat → Nat → Int) (hI66 : InvC dt65) (hF67 : Fr [79, 84] dt dt65) (i68 : ∃ q : Nat, (gB_ (KF 1 b n) (VF b n) j) i = (gO (KF 1 b n) (gC (KF 1 b n) (VF b n) j) 600) q ∧ CUR 1 b n dt65 q ∧ q ≤ t) (i69 : dt 79 15 + dt65 79 11 ≤ dt65 79 15 + dt 79 11) (i70 : dt 79 11 + 1 ≤ dt65 79 11) (i71 : dt65 79 15 ≤ 500) (i72 : dt65 79 2 = dt 79 2) (i73 : dt65 79 9 = dt 79 9) (i74 : dt65 79 10 = dt 79 10) (i75 : dt65 79 12 = dt 79 12) (i76 : dt65 79 17 = dt 79 17) (i77 : dt65 79 20 = dt 79 20), (502 - dt65 79 15).toNat < k_ → GO (am_XX L xs sio) (d + 12) 168 9 [some (.inr (.inr (some 79)))] [] (SH, dt65) (fun r w2 => ∃ dt2 : Nat → Nat → Int, w2 = (SH, dt2) ∧ InvC dt2 ∧ Fr [79, 84] dt dt2 ∧ ((r = some (.inl 0) ∧ (RSX 1 b n i dt2 0 ((gB_ (KF 1 b n) (VF b n) j) i)) ∧ (dt2 79 2 = dt 79 2) ∧ (dt2 79 9 = dt 79 9) ∧ (dt2 79 10 = dt 79 10) ∧ (dt2 79 12 = dt 79 12)) ∨ (r = some (.inl 1) ∧ (RSX 1 b n i dt2 1 ((gB_ (KF 1 b n) (VF b n) j) i)) ∧ (dt 79 15 + dt2 79 11 ≤ dt2 79 15 + dt 79 11) ∧ (dt 79 11 + 1 ≤ dt2 79 11) ∧ (dt2 79 15 ≤ 500) ∧ (dt2 79 2 = dt 79 2) ∧ (dt2 79 9 = dt 79 9) ∧ (dt2 79 10 = dt 79 10) ∧ (dt2 79 12 = dt 79 12) ∧ (dt2 79 17 = dt 79 17) ∧ (dt2 79 20 = dt 79 20)))) := by
      intro k_
      induction k_ with
      | zero => intro dt65 hI66 hF67 i68 i69 i70 i71 i72 i73 i74 i75 i76 i77 hm; exact absurd hm (Nat.not_lt_zero _)
      | succ k_ ih_loop78 =>
        intro dt65 hI66 hF67 i68 i69 i70 i71 i72 i73 i74 i75 i76 i77 hm
        clear cr16 cb17 cv18 ck19
        obtain ⟨gq, hpq, hcq, hiq⟩ := i68
        have crq := CUR_R hcq (.inr rfl)
        have cbq := CUR_b hcq
        have cvq := CUR_v hcq
        have ckq := KZ_lt (i := gq) hz
        have c1q := hcq.1
        have r79 : (-2147483648) ≤ dt65 79 14 ∧ dt65 79 14 ≤ 2147483647 := InvC_get hI66 79 14 rfl rfl
        refine go_ifq PM168 (k := 3) (p1 := 40) (p2 := 17) (L' := [some (.inr (.inr (some 79)))]) (st' := []) (w' := (SH, dt65)) rfl (c_ne (a := dt65 79 14) (b := 4) (by first | exact bnd r79 (by decide) (by decide) | exact ⟨by omega, by omega⟩) ⟨by decide, by decide⟩) (fun c80 => ?_) (fun c80 => ?_)
        · skip
          refine go_retq PM168 (k := 1) (r := some (.inl 1)) (w1 := (SH, dt65)) rfl ?_
          exact ⟨dt65, rfl, hI66, hF67, (Or.inr ⟨rfl, ⟨by exact RSX_ok (hpq.trans (by show gO _ _ 600 gq = _; rw [gO_u (gC_M hz _) (by omega) (by omega), if_neg (by omega)])) hcq, by first | exact True.intro | rfl | omega | trivial, by first | exact True.intro | rfl | omega | trivial, by exact (InvC_get (by assumption) 79 15 rfl rfl).2, by first | exact True.intro | rfl | omega | trivial, by first | exact True.intro | rfl | omega | trivial, by first | exact True.intro | rfl | omega | trivial, by first | exact True.intro | rfl | omega | trivial, by first | exact True.intro | rfl | omega | trivial, by first | exact True.intro | rfl | omega | trivial⟩⟩)⟩
        · skip
          refine go_toq PM168 (k := 1) (pc' := 18) (L' := [some (.inr (.inr (some 79)))]) (st' := [.inr (.inr (some 79))]) (w' := (SH, dt65)) rfl ?_
          refine go_callq PM168 PM159 (Q' := _) rfl rfl rfl rfl (sp_X6_next0_p1 L xs sio (d + 5) dt65 hI66   (by first | exact True.intro | rfl | omega | trivial) (by first | exact True.intro | rfl | omega | trivial)) ?_
          rintro _ _ ⟨dt82, rfl, hI83, hF84, h81⟩
          refine ⟨rfl, ?_⟩
          have hF85 : Fr [79, 84] dt dt82 := Fr_tr hF67 hF84 (by decide)
          rcases h81 with ⟨rfl, h81⟩
          obtain ⟨h81_0, h81_1, h81_2, h81_3, h81_4, h81_5, h81_6, h81_7, h81_8⟩ := h81
          have hq86 := h81_0
          rw [show dt65 85 = dt 85 from funext (hF67 85 (by decide)), show dt65 79 12 = dt 79 12 by omega, hbb, show (dt 79 12).toNat = n by omega] at hq86
          have hc87 : CUR 1 b n dt82 (gq + 1) := CUR_n hcq hq86
          have hi88 : gq + 1 ≤ t := by omega
          have av89 : dt65 79 15 + 1 ≤ dt65 79 13 := by omega
          have hp90 : (gB_ (KF 1 b n) (VF b n) j) i = (fun i => gB (gEv (KF 1 b n) (VF b n) j i) (gO (KF 1 b n) (gC (KF 1 b n) (VF b n) j) 600)) (gq + 1) := hpq.trans (by show gO _ _ 600 gq = _; rw [gO_u (gC_M hz _) (by omega) (by omega)]; first | (rw [if_pos (by omega)]; done) | (rw [if_pos (by omega)]; rfl))
          clear crq cbq cvq ckq
          have cr91 := CUR_R hc87 (.inr rfl)
          have cb92 := CUR_b hc87
          have cv93 := CUR_v hc87
          have ck94 := KZ_lt (i := (gq + 1)) hz
          have c195 := (hc87).1
          have ci96 := hi88
          refine go_toq PM168 (k := 1) (pc' := 22) (L' := [some (.inr (.inr (some 79)))]) (st' := [.inr (.inr (some 79))]) (w' := (SH, dt82)) rfl ?_
          refine go_callq PM168 PM169 (Q' := _) rfl rfl rfl rfl (IH_X6_every L xs sio (d + 0) dt82 hI83 b n t (gq + 1) (by first | exact hbb | (rw [show dt82 85 = dt 85 from funext (hF85 85 (by decide)), show dt82 79 12 = dt 79 12 by omega]; exact hbb)) (by omega) hz ht hc87 hi88 hn5  (by first | exact True.intro | rfl | omega | trivial) (by first | exact True.intro | rfl | omega | trivial) (by first | exact True.intro | rfl | omega | trivial) (by first | exact True.intro | rfl | omega | trivial)) ?_
          rintro _ _ ⟨dt98, rfl, hI99, hF100, h97⟩
          refine ⟨rfl, ?_⟩
          have hF101 : Fr [79, 84] dt dt98 := Fr_tr hF85 hF100 (by decide)
          rcases h97 with ⟨rfl, h97⟩ | ⟨rfl, h97⟩
          · skip
            obtain ⟨h97_0, h97_1, h97_2, h97_3, h97_4⟩ := h97
            have fl102 := RSX_0 h97_0 rfl
            have fe103 : (gB_ (KF 1 b n) (VF b n) j) i = (gEv (KF 1 b n) (VF b n) j) (gq + 1) := hp90.trans ((show (fun i => gB (gEv (KF 1 b n) (VF b n) j i) (gO (KF 1 b n) (gC (KF 1 b n) (VF b n) j) 600)) (gq + 1) = gB ((gEv (KF 1 b n) (VF b n) j) (gq + 1)) (gO (KF 1 b n) (gC (KF 1 b n) (VF b n) j) 600) by rfl).trans (gB_no fl102.1))
            refine go_retq PM168 (k := 2) (r := some (.inl 0)) (w1 := (SH, dt98)) rfl ?_
            exact ⟨dt98, rfl, hI99, hF101, (Or.inl ⟨rfl, ⟨by exact RSX_f fe103 fl102 (by omega) (by omega), by first | exact True.intro | rfl | omega | trivial, by first | exact True.intro | rfl | omega | trivial, by first | exact True.intro | rfl | omega | trivial, by first | exact True.intro | rfl | omega | trivial⟩⟩)⟩
          · skip
            obtain ⟨h97_0, h97_1, h97_2, h97_3, h97_4, h97_5, h97_6, h97_7, h97_8, h97_9⟩ := h97
            obtain ⟨j104, ej105, hc106⟩ := RSX_1 h97_0 (by decide)
            have hp107 : (gB_ (KF 1 b n) (VF b n) j) i = (gO (KF 1 b n) (gC (KF 1 b n) (VF b n) j) 600) j104 := hp90.trans ((show (fun i => gB (gEv (KF 1 b n) (VF b n) j i) (gO (KF 1 b n) (gC (KF 1 b n) (VF b n) j) 600)) (gq + 1) = gB ((gEv (KF 1 b n) (VF b n) j) (gq + 1)) (gO (KF 1 b n) (gC (KF 1 b n) (VF b n) j) 600) by rfl).trans (by rw [ej105]; exact gB_0))
            have hi108 : j104 ≤ t := by have z := gEv_M (K := (KF 1 b n)) (V := (VF b n)) (d := j) (i := (gq + 1)) hz; rw [ej105] at z; have y := z rfl; simp only at y; omega
            clear cr91 cb92 cv93 ck94
            have cr109 := CUR_R hc106 (.inr rfl)
            have cb110 := CUR_b hc106
            have cv111 := CUR_v hc106
            have ck112 := KZ_lt (i := j104) hz
            have c1113 := (hc106).1
            have ci114 := hi108
            refine go_toq PM168 (k := 4) (pc' := 34) (L' := [some (.inr (.inr (some 79)))]) (st' := [.inl 0, .inl 16, .inr (.inr (some 79))]) (w' := (SH, dt98)) rfl ?_
            refine go_callq PM168 PM163 (Q' := _) rfl rfl rfl rfl (sp_X6_lay_g L xs sio (d + 11) dt98 hI99  16 ⟨by decide, by decide⟩ 0 ⟨by decide, by decide⟩ (by first | exact True.intro | rfl | omega | trivial)) ?_
            rintro _ _ ⟨dt116, rfl, hI117, hF118, h115⟩
            refine ⟨rfl, ?_⟩
            have hF119 : Fr [79, 84] dt dt116 := Fr_tr hF101 hF118 (by decide)
            rcases h115 with ⟨rfl, h115⟩
            obtain ⟨h115_0, h115_1, h115_2, h115_3, h115_4, h115_5, h115_6, h115_7, h115_8, h115_9, h115_10⟩ := h115
            have hc120 : CUR 1 b n dt116 j104 := CUR_sm hc106 (by omega) (by omega) (by omega) (by omega)
            refine go_toq PM168 (k := 1) (pc' := 9) (L' := [some (.inr (.inr (some 79)))]) (st' := []) (w' := (SH, dt116)) rfl ?_
            exact GO.le (ih_loop78 dt116 hI117 hF119 (by exact ⟨_, hp107, hc120, hi108⟩) (by first | omega | exact ⟨_, hp107, hc120, hi108⟩) (by first | omega | exact ⟨_, hp107, hc120, hi108⟩) (by first | omega | exact ⟨_, hp107, hc120, hi108⟩) (by first | omega | exact ⟨_, hp107, hc120, hi108⟩) (by first | omega | exact ⟨_, hp107, hc120, hi108⟩) (by first | omega | exact ⟨_, hp107, hc120, hi108⟩) (by first | omega | exact ⟨_, hp107, hc120, hi108⟩) (by first | omega | exact ⟨_, hp107, hc120, hi108⟩) (by first | omega | exact ⟨_, hp107, hc120, hi108⟩) (by omega)) ⟨.inl rfl, trivial⟩
    exact GO.le (loop78 _ dt5 hI6 hF8 (by exact ⟨_, hp14, hc13, hi15⟩) (by first | omega | exact ⟨_, hp14, hc13, hi15⟩) (by first | omega | exact ⟨_, hp14, hc13, hi15⟩) (by first | omega | exact ⟨_, hp14, hc13, hi15⟩) (by first | omega | exact ⟨_, hp14, hc13, hi15⟩) (by first | omega | exact ⟨_, hp14, hc13, hi15⟩) (by first | omega | exact ⟨_, hp14, hc13, hi15⟩) (by first | omega | exact ⟨_, hp14, hc13, hi15⟩) (by first | omega | exact ⟨_, hp14, hc13, hi15⟩) (by first | omega | exact ⟨_, hp14, hc13, hi15⟩) (Nat.lt_succ_self _)) ⟨.inl rfl, trivial⟩
set_option maxHeartbeats 1500000 in
set_option maxRecDepth 20000 in
theorem lv_X6_one_g (L : Nat) (xs : Nat → Int32) (sio : Option Nat) (d : Nat) (dt : Nat → Nat → Int) (hI : InvC dt) (b : Nat → Int) (n t i : Nat) (hbb : mB (dt 85) (dt 79 12) = b) (hnn : dt 79 12 = (n : Int)) (hz : KZ (KF 1 b n) t) (ht : t ≤ 500) (hc : CUR 1 b n dt i) (hi : i ≤ t) (hn5 : n ≤ 500) (j : Nat) (IH_X6_one : ∀ (L : Nat) (xs : Nat → Int32) (sio : Option Nat) (d : Nat) (dt : Nat → Nat → Int) (hI : InvC dt) (b : Nat → Int) (n t i : Nat) (hbb : mB (dt 85) (dt 79 12) = b) (hnn : dt 79 12 = (n : Int)) (hz : KZ (KF 1 b n) t) (ht : t ≤ 500) (hc : CUR 1 b n dt i) (hi : i ≤ t) (hn5 : n ≤ 500) (h_p0 : dt 79 9 = 1) (h_p1 : dt 79 11 ≤ dt 79 15) (h_p2 : dt 79 20 + ((j : Nat) : Int) = 8) (h_p3 : 3 * j ≤ d), GO (am_XX L xs sio) (d + 10) 170 0 [some (.inr (.inr (some 79))), none] [] (SH, dt) (fun r w2 => ∃ dt2 : Nat → Nat → Int, w2 = (SH, dt2) ∧ InvC dt2 ∧ Fr [79, 84] dt dt2 ∧ ((r = some (.inl 0) ∧ (RSX 1 b n i dt2 0 ((gC (KF 1 b n) (VF b n) j) i)) ∧ (dt2 79 2 = dt 79 2) ∧ (dt2 79 9 = dt 79 9) ∧ (dt2 79 10 = dt 79 10) ∧ (dt2 79 12 = dt 79 12)) ∨ (r = some (.inl 1) ∧ (RSX 1 b n i dt2 1 ((gC (KF 1 b n) (VF b n) j) i)) ∧ (dt 79 15 + dt2 79 11 ≤ dt2 79 15 + dt 79 11) ∧ (dt 79 11 + 1 ≤ dt2 79 11) ∧ (dt2 79 15 ≤ 500) ∧ (dt2 79 2 = dt 79 2) ∧ (dt2 79 9 = dt 79 9) ∧ (dt2 79 10 = dt 79 10) ∧ (dt2 79 12 = dt 79 12) ∧ (dt2 79 17 = dt 79 17) ∧ (dt2 79 20 = dt 79 20))))) (IH_X6_every : ∀ (L : Nat) (xs : Nat → Int32) (sio : Option Nat) (d : Nat) (dt : Nat → Nat → Int) (hI : InvC dt) (b : Nat → Int) (n t i : Nat) (hbb : mB (dt 85) (dt 79 12) = b) (hnn : dt 79 12 = (n : Int)) (hz : KZ (KF 1 b n) t) (ht : t ≤ 500) (hc : CUR 1 b n dt i) (hi : i ≤ t) (hn5 : n ≤ 500) (h_p0 : dt 79 9 = 1) (h_p1 : dt 79 11 ≤ dt 79 15) (h_p2 : dt 79 20 + ((j : Nat) : Int) = 8) (h_p3 : 3 * j ≤ d), GO (am_XX L xs sio) (d + 11) 169 0 [some (.inr (.inr (some 79)))] [] (SH, dt) (fun r w2 => ∃ dt2 : Nat → Nat → Int, w2 = (SH, dt2) ∧ InvC dt2 ∧ Fr [79, 84] dt dt2 ∧ ((r = some (.inl 0) ∧ (RSX 1 b n i dt2 0 ((gEv (KF 1 b n) (VF b n) j) i)) ∧ (dt2 79 2 = dt 79 2) ∧ (dt2 79 9 = dt 79 9) ∧ (dt2 79 10 = dt 79 10) ∧ (dt2 79 12 = dt 79 12)) ∨ (r = some (.inl 1) ∧ (RSX 1 b n i dt2 1 ((gEv (KF 1 b n) (VF b n) j) i)) ∧ (dt 79 15 + dt2 79 11 ≤ dt2 79 15 + dt 79 11) ∧ (dt 79 11 + 1 ≤ dt2 79 11) ∧ (dt2 79 15 ≤ 500) ∧ (dt2 79 2 = dt 79 2) ∧ (dt2 79 9 = dt 79 9) ∧ (dt2 79 10 = dt 79 10) ∧ (dt2 79 12 = dt 79 12) ∧ (dt2 79 17 = dt 79 17) ∧ (dt2 79 20 = dt 79 20))))) (IH_X6_any : ∀ (L : Nat) (xs : Nat → Int32) (sio : Option Nat) (d : Nat) (dt : Nat → Nat → Int) (hI : InvC dt) (b : Nat → Int) (n t i : Nat) (hbb : mB (dt 85) (dt 79 12) = b) (hnn : dt 79 12 = (n : Int)) (hz : KZ (KF 1 b n) t) (ht : t ≤ 500) (hc : CUR 1 b n dt i) (hi : i ≤ t) (hn5 : n ≤ 500) (h_p0 : dt 79 9 = 1) (h_p1 : dt 79 11 ≤ dt 79 15) (h_p2 : dt 79 20 + ((j : Nat) : Int) = 8) (h_p3 : 3 * j ≤ d), GO (am_XX L xs sio) (d + 12) 168 0 [some (.inr (.inr (some 79)))] [] (SH, dt) (fun r w2 => ∃ dt2 : Nat → Nat → Int, w2 = (SH, dt2) ∧ InvC dt2 ∧ Fr [79, 84] dt dt2 ∧ ((r = some (.inl 0) ∧ (RSX 1 b n i dt2 0 ((gB_ (KF 1 b n) (VF b n) j) i)) ∧ (dt2 79 2 = dt 79 2) ∧ (dt2 79 9 = dt 79 9) ∧ (dt2 79 10 = dt 79 10) ∧ (dt2 79 12 = dt 79 12)) ∨ (r = some (.inl 1) ∧ (RSX 1 b n i dt2 1 ((gB_ (KF 1 b n) (VF b n) j) i)) ∧ (dt 79 15 + dt2 79 11 ≤ dt2 79 15 + dt 79 11) ∧ (dt 79 11 + 1 ≤ dt2 79 11) ∧ (dt2 79 15 ≤ 500) ∧ (dt2 79 2 = dt 79 2) ∧ (dt2 79 9 = dt 79 9) ∧ (dt2 79 10 = dt 79 10) ∧ (dt2 79 12 = dt 79 12) ∧ (dt2 79 17 = dt 79 17) ∧ (dt2 79 20 = dt 79 20)))))   (h_p0 : dt 79 9 = 1) (h_p1 : dt 79 11 ≤ dt 79 15) (h_p2 : dt 79 20 + (((j + 1) : Nat) : Int) = 8) (h_p3 : 3 * j ≤ d) : GO (am_XX L xs sio) (d + 13) 170 0 [some (.inr (.inr (some 79))), none] [] (SH, dt) (fun r w2 => ∃ dt2 : Nat → Nat → Int, w2 = (SH, dt2) ∧ InvC dt2 ∧ Fr [79, 84] dt dt2 ∧ ((r = some (.inl 0) ∧ (RSX 1 b n i dt2 0 ((gC (KF 1 b n) (VF b n) (j + 1)) i)) ∧ (dt2 79 2 = dt 79 2) ∧ (dt2 79 9 = dt 79 9) ∧ (dt2 79 10 = dt 79 10) ∧ (dt2 79 12 = dt 79 12)) ∨ (r = some (.inl 1) ∧ (RSX 1 b n i dt2 1 ((gC (KF 1 b n) (VF b n) (j + 1)) i)) ∧ (dt 79 15 + dt2 79 11 ≤ dt2 79 15 + dt 79 11) ∧ (dt 79 11 + 1 ≤ dt2 79 11) ∧ (dt2 79 15 ≤ 500) ∧ (dt2 79 2 = dt 79 2) ∧ (dt2 79 9 = dt 79 9) ∧ (dt2 79 10 = dt 79 10) ∧ (dt2 79 12 = dt 79 12) ∧ (dt2 79 17 = dt 79 17) ∧ (dt2 79 20 = dt 79 20)))) := by
  have hF : Fr [79, 84] dt dt := Fr_refl
  have r1 : 0 ≤ dt 79 15 ∧ dt 79 15 ≤ 500 := InvC_get hI 79 15 rfl rfl
  have r2 : 0 ≤ dt 79 11 ∧ dt 79 11 ≤ 510 := InvC_get hI 79 11 rfl rfl
  have r3 : 0 ≤ dt 79 10 ∧ dt 79 10 ≤ 24 := InvC_get hI 79 10 rfl rfl
  have cr0 := CUR_R hc (.inr rfl)
  have cb0 := CUR_b hc
  have cv0 := CUR_v hc
  have ck0 := KZ_lt (i := i) hz
  have c10 := hc.1
  have r4 : (-2147483648) ≤ dt 79 14 ∧ dt 79 14 ≤ 2147483647 := InvC_get hI 79 14 rfl rfl
  refine go_ifq PM170 (k := 3) (p1 := 44) (p2 := 9) (L' := [some (.inr (.inr (some 79))), none]) (st' := []) (w' := (SH, dt)) rfl (c_ne (a := dt 79 14) (b := 6) (by first | exact bnd r4 (by decide) (by decide) | exact ⟨by omega, by omega⟩) ⟨by decide, by decide⟩) (fun c5 => ?_) (fun c5 => ?_)
  · skip
    refine go_ifq PM170 (k := 3) (p1 := 92) (p2 := 54) (L' := [some (.inr (.inr (some 79))), none]) (st' := []) (w' := (SH, dt)) rfl (c_ne (a := dt 79 14) (b := 140) (by first | exact bnd r4 (by decide) (by decide) | exact ⟨by omega, by omega⟩) ⟨by decide, by decide⟩) (fun c6 => ?_) (fun c6 => ?_)
    · skip
      refine go_toq PM170 (k := 1) (pc' := 93) (L' := [some (.inr (.inr (some 79))), none]) (st' := [.inr (.inr (some 79))]) (w' := (SH, dt)) rfl ?_
      refine go_callq PM170 PM165 (Q' := _) rfl rfl rfl rfl (sp_X6_sumUp_g L xs sio (d + 3) dt hI b n t i (by first | exact hbb | (rw [show dt 85 = dt 85 from funext (hF 85 (by decide)), show dt 79 12 = dt 79 12 by omega]; exact hbb)) (by omega) hz ht hc hi hn5  (by first | exact True.intro | rfl | omega | trivial) (by first | exact True.intro | rfl | omega | trivial)) ?_
      rintro _ _ ⟨dt8, rfl, hI9, hF10, h7⟩
      refine ⟨rfl, ?_⟩
      have hF11 : Fr [79, 84] dt dt8 := Fr_tr hF hF10 (by decide)
      rcases h7 with ⟨rfl, h7⟩ | ⟨rfl, h7⟩
      · skip
        obtain ⟨h7_0, h7_1, h7_2, h7_3, h7_4⟩ := h7
        have fl12 := RSX_0 h7_0 rfl
        have fe13 : (gC (KF 1 b n) (VF b n) (j + 1)) i = (gE (KF 1 b n) (VF b n)) i := (rfl : (gC (KF 1 b n) (VF b n) (j + 1)) i = (gC (KF 1 b n) (VF b n) (j + 1)) i).trans ((show (gC (KF 1 b n) (VF b n) (j + 1)) i = gB ((gE (KF 1 b n) (VF b n)) i) (gR1 (KF 1 b n) (VF b n)) by exact (gC_1 (by omega) (by omega)).trans gC1_R).trans (gB_no fl12.1))
        refine go_retq PM170 (k := 2) (r := some (.inl 0)) (w1 := (SH, dt8)) rfl ?_
        exact ⟨dt8, rfl, hI9, hF11, (Or.inl ⟨rfl, ⟨by first | exact RSX_f fe13 fl12 (by omega) (by omega) | exact RSX_no (k := 1) (j := i) ((rfl : (gC (KF 1 b n) (VF b n) (j + 1)) i = (gC (KF 1 b n) (VF b n) (j + 1)) i).trans (by show gR1 _ _ _ = _; unfold gR1; rw [if_neg (by omega)])) (by decide) (by omega) (by show _ = ((TP b n i : Nat) : Int); omega), by first | exact True.intro | rfl | omega | trivial, by first | exact True.intro | rfl | omega | trivial, by first | exact True.intro | rfl | omega | trivial, by first | exact True.intro | rfl | omega | trivial⟩⟩)⟩
      · skip
        obtain ⟨h7_0, h7_1, h7_2, h7_3, h7_4, h7_5, h7_6, h7_7, h7_8, h7_9⟩ := h7
        obtain ⟨j14, ej15, hc16⟩ := RSX_1 h7_0 (by decide)
        have hp17 : (gC (KF 1 b n) (VF b n) (j + 1)) i = (gR1 (KF 1 b n) (VF b n)) j14 := (rfl : (gC (KF 1 b n) (VF b n) (j + 1)) i = (gC (KF 1 b n) (VF b n) (j + 1)) i).trans ((show (gC (KF 1 b n) (VF b n) (j + 1)) i = gB ((gE (KF 1 b n) (VF b n)) i) (gR1 (KF 1 b n) (VF b n)) by exact (gC_1 (by omega) (by omega)).trans gC1_R).trans (by rw [ej15]; exact gB_0))
        have hi18 : j14 ≤ t := by have z := gE_M (K := (KF 1 b n)) (V := (VF b n)) (i := i) hz; rw [ej15] at z; have y := z rfl; simp only at y; omega
        clear cr0 cb0 cv0 ck0
        have cr19 := CUR_R hc16 (.inr rfl)
        have cb20 := CUR_b hc16
        have cv21 := CUR_v hc16
        have ck22 := KZ_lt (i := j14) hz
        have c123 := (hc16).1
        have ci24 := hi18
        have r25 : (-2147483648) ≤ dt8 79 14 ∧ dt8 79 14 ≤ 2147483647 := InvC_get hI9 79 14 rfl rfl
        refine go_ifq PM170 (k := 4) (p1 := 116) (p2 := 111) (L' := [some (.inr (.inr (some 79))), none]) (st' := []) (w' := (SH, dt8)) rfl (c_ne (a := dt8 79 14) (b := 160) (by first | exact bnd r25 (by decide) (by decide) | exact ⟨by omega, by omega⟩) ⟨by decide, by decide⟩) (fun c26 => ?_) (fun c26 => ?_)
        · skip
          refine go_ifq PM170 (k := 3) (p1 := 131) (p2 := 126) (L' := [some (.inr (.inr (some 79))), none]) (st' := []) (w' := (SH, dt8)) rfl (c_ne (a := dt8 79 14) (b := 161) (by first | exact bnd r25 (by decide) (by decide) | exact ⟨by omega, by omega⟩) ⟨by decide, by decide⟩) (fun c27 => ?_) (fun c27 => ?_)
          · skip
            refine go_ifq PM170 (k := 3) (p1 := 146) (p2 := 141) (L' := [some (.inr (.inr (some 79))), none]) (st' := []) (w' := (SH, dt8)) rfl (c_ne (a := dt8 79 14) (b := 162) (by first | exact bnd r25 (by decide) (by decide) | exact ⟨by omega, by omega⟩) ⟨by decide, by decide⟩) (fun c28 => ?_) (fun c28 => ?_)
            · skip
              refine go_toq PM170 (k := 7) (pc' := 155) (L' := [some (.inr (.inr (some 79))), some (.inl (-1))]) (st' := [.inl 1, .inr (.inr (some 79))]) (w' := (SH, dt8)) rfl ?_
              refine go_callq PM170 PM160 (Q' := _) rfl rfl rfl rfl (sp_X6_bad_g L xs sio (d + 12) dt8 hI9  1 ⟨by decide, by decide⟩ ) ?_
              rintro _ _ ⟨dt30, rfl, hI31, hF32, h29⟩
              refine ⟨rfl, ?_⟩
              have hF33 : Fr [79, 84] dt dt30 := Fr_tr hF11 hF32 (by decide)
              rcases h29 with ⟨rfl, h29⟩
              obtain ⟨h29_0, h29_1, h29_2, h29_3, h29_4, h29_5, h29_6, h29_7, h29_8, h29_9, h29_10, h29_11⟩ := h29
              have hc34 : CUR 1 b n dt30 j14 := CUR_sm hc16 (by omega) (by omega) (by omega) (by omega)
              refine go_retq PM170 (k := 0) (r := some (.inl 0)) (w1 := (SH, dt30)) rfl ?_
              exact ⟨dt30, rfl, hI31, hF33, (Or.inl ⟨rfl, ⟨by first | exact RSX_f hI hI (by omega) (by omega) | exact RSX_no (k := 1) (j := j14) (hp17.trans (by show gR1 _ _ _ = _; unfold gR1; rw [if_neg (by omega)])) (by decide) (by omega) (by show _ = ((TP b n j14 : Nat) : Int); omega), by first | exact True.intro | rfl | omega | trivial, by first | exact True.intro | rfl | omega | trivial, by first | exact True.intro | rfl | omega | trivial, by first | exact True.intro | rfl | omega | trivial⟩⟩)⟩
            · skip
              refine go_toq PM170 (k := 7) (pc' := 160) (L' := [some (.inr (.inr (some 79))), some (.inl 13)]) (st' := [.inr (.inr (some 79))]) (w' := (SH, dt8)) rfl ?_
              refine go_callq PM170 PM159 (Q' := _) rfl rfl rfl rfl (sp_X6_next0_p1 L xs sio (d + 6) dt8 hI9   (by first | exact True.intro | rfl | omega | trivial) (by first | exact True.intro | rfl | omega | trivial)) ?_
              rintro _ _ ⟨dt36, rfl, hI37, hF38, h35⟩
              refine ⟨rfl, ?_⟩
              have hF39 : Fr [79, 84] dt dt36 := Fr_tr hF11 hF38 (by decide)
              rcases h35 with ⟨rfl, h35⟩
              obtain ⟨h35_0, h35_1, h35_2, h35_3, h35_4, h35_5, h35_6, h35_7, h35_8⟩ := h35
              have hq40 := h35_0
              rw [show dt8 85 = dt 85 from funext (hF11 85 (by decide)), show dt8 79 12 = dt 79 12 by omega, hbb, show (dt 79 12).toNat = n by omega] at hq40
              have hc41 : CUR 1 b n dt36 (j14 + 1) := CUR_n hc16 hq40
              have hi42 : j14 + 1 ≤ t := by omega
              have av43 : dt8 79 15 + 1 ≤ dt8 79 13 := by omega
              have hp44 : (gC (KF 1 b n) (VF b n) (j + 1)) i = (gE (KF 1 b n) (VF b n)) (j14 + 1) := hp17.trans (by show gR1 _ _ j14 = _; unfold gR1; rw [if_pos (by omega)])
              clear cr19 cb20 cv21 ck22
              have cr45 := CUR_R hc41 (.inr rfl)
              have cb46 := CUR_b hc41
              have cv47 := CUR_v hc41
              have ck48 := KZ_lt (i := (j14 + 1)) hz
              have c149 := (hc41).1
              have ci50 := hi42
              refine go_toq PM170 (k := 1) (pc' := 164) (L' := [some (.inr (.inr (some 79))), some (.inl 13)]) (st' := [.inr (.inr (some 79))]) (w' := (SH, dt36)) rfl ?_
              refine go_callq PM170 PM165 (Q' := _) rfl rfl rfl rfl (sp_X6_sumUp_g L xs sio (d + 3) dt36 hI37 b n t (j14 + 1) (by first | exact hbb | (rw [show dt36 85 = dt 85 from funext (hF39 85 (by decide)), show dt36 79 12 = dt 79 12 by omega]; exact hbb)) (by omega) hz ht hc41 hi42 hn5  (by first | exact True.intro | rfl | omega | trivial) (by first | exact True.intro | rfl | omega | trivial)) ?_
              rintro _ _ ⟨dt52, rfl, hI53, hF54, h51⟩
              refine ⟨rfl, ?_⟩
              have hF55 : Fr [79, 84] dt dt52 := Fr_tr hF39 hF54 (by decide)
              rcases h51 with ⟨rfl, h51⟩ | ⟨rfl, h51⟩
              · skip
                obtain ⟨h51_0, h51_1, h51_2, h51_3, h51_4⟩ := h51
                have fl56 := RSX_0 h51_0 rfl
                have fe57 : (gC (KF 1 b n) (VF b n) (j + 1)) i = (gE (KF 1 b n) (VF b n)) (j14 + 1) := hp44.trans ((show (gE (KF 1 b n) (VF b n)) (j14 + 1) = gB ((gE (KF 1 b n) (VF b n)) (j14 + 1)) gOk by exact gB_id.symm).trans (gB_no fl56.1))
                refine go_retq PM170 (k := 2) (r := some (.inl 0)) (w1 := (SH, dt52)) rfl ?_
                exact ⟨dt52, rfl, hI53, hF55, (Or.inl ⟨rfl, ⟨by first | exact RSX_f fe57 fl56 (by omega) (by omega) | exact RSX_no (k := 1) (j := (j14 + 1)) (hp44.trans (by show gR1 _ _ _ = _; unfold gR1; rw [if_neg (by omega)])) (by decide) (by omega) (by show _ = ((TP b n (j14 + 1) : Nat) : Int); omega), by first | exact True.intro | rfl | omega | trivial, by first | exact True.intro | rfl | omega | trivial, by first | exact True.intro | rfl | omega | trivial, by first | exact True.intro | rfl | omega | trivial⟩⟩)⟩
              · skip
                obtain ⟨h51_0, h51_1, h51_2, h51_3, h51_4, h51_5, h51_6, h51_7, h51_8, h51_9⟩ := h51
                obtain ⟨j58, ej59, hc60⟩ := RSX_1 h51_0 (by decide)
                have hp61 : (gC (KF 1 b n) (VF b n) (j + 1)) i = gOk j58 := hp44.trans ((show (gE (KF 1 b n) (VF b n)) (j14 + 1) = gB ((gE (KF 1 b n) (VF b n)) (j14 + 1)) gOk by exact gB_id.symm).trans (by rw [ej59]; exact gB_0))
                have hi62 : j58 ≤ t := by have z := gE_M (K := (KF 1 b n)) (V := (VF b n)) (i := (j14 + 1)) hz; rw [ej59] at z; have y := z rfl; simp only at y; omega
                clear cr45 cb46 cv47 ck48
                have cr63 := CUR_R hc60 (.inr rfl)
                have cb64 := CUR_b hc60
                have cv65 := CUR_v hc60
                have ck66 := KZ_lt (i := j58) hz
                have c167 := (hc60).1
                have ci68 := hi62
                refine go_toq PM170 (k := 4) (pc' := 175) (L' := [some (.inr (.inr (some 79))), some (.inl 13)]) (st' := [.inl 0, .inl 13, .inr (.inr (some 79))]) (w' := (SH, dt52)) rfl ?_
                refine go_callq PM170 PM163 (Q' := _) rfl rfl rfl rfl (sp_X6_lay_g L xs sio (d + 12) dt52 hI53  13 ⟨by decide, by decide⟩ 0 ⟨by decide, by decide⟩ (by first | exact True.intro | rfl | omega | trivial)) ?_
                rintro _ _ ⟨dt70, rfl, hI71, hF72, h69⟩
                refine ⟨rfl, ?_⟩
                have hF73 : Fr [79, 84] dt dt70 := Fr_tr hF55 hF72 (by decide)
                rcases h69 with ⟨rfl, h69⟩
                obtain ⟨h69_0, h69_1, h69_2, h69_3, h69_4, h69_5, h69_6, h69_7, h69_8, h69_9, h69_10⟩ := h69
                have hc74 : CUR 1 b n dt70 j58 := CUR_sm hc60 (by omega) (by omega) (by omega) (by omega)
                refine go_retq PM170 (k := 1) (r := some (.inl 1)) (w1 := (SH, dt70)) rfl ?_
                exact ⟨dt70, rfl, hI71, hF73, (Or.inr ⟨rfl, ⟨by exact RSX_ok (hp61.trans (by rfl)) hc74, by first | exact True.intro | rfl | omega | trivial, by first | exact True.intro | rfl | omega | trivial, by exact (InvC_get (by assumption) 79 15 rfl rfl).2, by first | exact True.intro | rfl | omega | trivial, by first | exact True.intro | rfl | omega | trivial, by first | exact True.intro | rfl | omega | trivial, by first | exact True.intro | rfl | omega | trivial, by first | exact True.intro | rfl | omega | trivial, by first | exact True.intro | rfl | omega | trivial⟩⟩)⟩
          · skip
            refine go_toq PM170 (k := 7) (pc' := 160) (L' := [some (.inr (.inr (some 79))), some (.inl 12)]) (st' := [.inr (.inr (some 79))]) (w' := (SH, dt8)) rfl ?_
            refine go_callq PM170 PM159 (Q' := _) rfl rfl rfl rfl (sp_X6_next0_p1 L xs sio (d + 6) dt8 hI9   (by first | exact True.intro | rfl | omega | trivial) (by first | exact True.intro | rfl | omega | trivial)) ?_
            rintro _ _ ⟨dt76, rfl, hI77, hF78, h75⟩
            refine ⟨rfl, ?_⟩
            have hF79 : Fr [79, 84] dt dt76 := Fr_tr hF11 hF78 (by decide)
            rcases h75 with ⟨rfl, h75⟩
            obtain ⟨h75_0, h75_1, h75_2, h75_3, h75_4, h75_5, h75_6, h75_7, h75_8⟩ := h75
            have hq80 := h75_0
            rw [show dt8 85 = dt 85 from funext (hF11 85 (by decide)), show dt8 79 12 = dt 79 12 by omega, hbb, show (dt 79 12).toNat = n by omega] at hq80
            have hc81 : CUR 1 b n dt76 (j14 + 1) := CUR_n hc16 hq80
            have hi82 : j14 + 1 ≤ t := by omega
            have av83 : dt8 79 15 + 1 ≤ dt8 79 13 := by omega
            have hp84 : (gC (KF 1 b n) (VF b n) (j + 1)) i = (gE (KF 1 b n) (VF b n)) (j14 + 1) := hp17.trans (by show gR1 _ _ j14 = _; unfold gR1; rw [if_pos (by omega)])
            clear cr19 cb20 cv21 ck22
            have cr85 := CUR_R hc81 (.inr rfl)
            have cb86 := CUR_b hc81
            have cv87 := CUR_v hc81
            have ck88 := KZ_lt (i := (j14 + 1)) hz
            have c189 := (hc81).1
            have ci90 := hi82
            refine go_toq PM170 (k := 1) (pc' := 164) (L' := [some (.inr (.inr (some 79))), some (.inl 12)]) (st' := [.inr (.inr (some 79))]) (w' := (SH, dt76)) rfl ?_
            refine go_callq PM170 PM165 (Q' := _) rfl rfl rfl rfl (sp_X6_sumUp_g L xs sio (d + 3) dt76 hI77 b n t (j14 + 1) (by first | exact hbb | (rw [show dt76 85 = dt 85 from funext (hF79 85 (by decide)), show dt76 79 12 = dt 79 12 by omega]; exact hbb)) (by omega) hz ht hc81 hi82 hn5  (by first | exact True.intro | rfl | omega | trivial) (by first | exact True.intro | rfl | omega | trivial)) ?_
            rintro _ _ ⟨dt92, rfl, hI93, hF94, h91⟩
            refine ⟨rfl, ?_⟩
            have hF95 : Fr [79, 84] dt dt92 := Fr_tr hF79 hF94 (by decide)
            rcases h91 with ⟨rfl, h91⟩ | ⟨rfl, h91⟩
            · skip
              obtain ⟨h91_0, h91_1, h91_2, h91_3, h91_4⟩ := h91
              have fl96 := RSX_0 h91_0 rfl
              have fe97 : (gC (KF 1 b n) (VF b n) (j + 1)) i = (gE (KF 1 b n) (VF b n)) (j14 + 1) := hp84.trans ((show (gE (KF 1 b n) (VF b n)) (j14 + 1) = gB ((gE (KF 1 b n) (VF b n)) (j14 + 1)) gOk by exact gB_id.symm).trans (gB_no fl96.1))
              refine go_retq PM170 (k := 2) (r := some (.inl 0)) (w1 := (SH, dt92)) rfl ?_
              exact ⟨dt92, rfl, hI93, hF95, (Or.inl ⟨rfl, ⟨by first | exact RSX_f fe97 fl96 (by omega) (by omega) | exact RSX_no (k := 1) (j := (j14 + 1)) (hp84.trans (by show gR1 _ _ _ = _; unfold gR1; rw [if_neg (by omega)])) (by decide) (by omega) (by show _ = ((TP b n (j14 + 1) : Nat) : Int); omega), by first | exact True.intro | rfl | omega | trivial, by first | exact True.intro | rfl | omega | trivial, by first | exact True.intro | rfl | omega | trivial, by first | exact True.intro | rfl | omega | trivial⟩⟩)⟩
            · skip
              obtain ⟨h91_0, h91_1, h91_2, h91_3, h91_4, h91_5, h91_6, h91_7, h91_8, h91_9⟩ := h91
              obtain ⟨j98, ej99, hc100⟩ := RSX_1 h91_0 (by decide)
              have hp101 : (gC (KF 1 b n) (VF b n) (j + 1)) i = gOk j98 := hp84.trans ((show (gE (KF 1 b n) (VF b n)) (j14 + 1) = gB ((gE (KF 1 b n) (VF b n)) (j14 + 1)) gOk by exact gB_id.symm).trans (by rw [ej99]; exact gB_0))
              have hi102 : j98 ≤ t := by have z := gE_M (K := (KF 1 b n)) (V := (VF b n)) (i := (j14 + 1)) hz; rw [ej99] at z; have y := z rfl; simp only at y; omega
              clear cr85 cb86 cv87 ck88
              have cr103 := CUR_R hc100 (.inr rfl)
              have cb104 := CUR_b hc100
              have cv105 := CUR_v hc100
              have ck106 := KZ_lt (i := j98) hz
              have c1107 := (hc100).1
              have ci108 := hi102
              refine go_toq PM170 (k := 4) (pc' := 175) (L' := [some (.inr (.inr (some 79))), some (.inl 12)]) (st' := [.inl 0, .inl 12, .inr (.inr (some 79))]) (w' := (SH, dt92)) rfl ?_
              refine go_callq PM170 PM163 (Q' := _) rfl rfl rfl rfl (sp_X6_lay_g L xs sio (d + 12) dt92 hI93  12 ⟨by decide, by decide⟩ 0 ⟨by decide, by decide⟩ (by first | exact True.intro | rfl | omega | trivial)) ?_
              rintro _ _ ⟨dt110, rfl, hI111, hF112, h109⟩
              refine ⟨rfl, ?_⟩
              have hF113 : Fr [79, 84] dt dt110 := Fr_tr hF95 hF112 (by decide)
              rcases h109 with ⟨rfl, h109⟩
              obtain ⟨h109_0, h109_1, h109_2, h109_3, h109_4, h109_5, h109_6, h109_7, h109_8, h109_9, h109_10⟩ := h109
              have hc114 : CUR 1 b n dt110 j98 := CUR_sm hc100 (by omega) (by omega) (by omega) (by omega)
              refine go_retq PM170 (k := 1) (r := some (.inl 1)) (w1 := (SH, dt110)) rfl ?_
              exact ⟨dt110, rfl, hI111, hF113, (Or.inr ⟨rfl, ⟨by exact RSX_ok (hp101.trans (by rfl)) hc114, by first | exact True.intro | rfl | omega | trivial, by first | exact True.intro | rfl | omega | trivial, by exact (InvC_get (by assumption) 79 15 rfl rfl).2, by first | exact True.intro | rfl | omega | trivial, by first | exact True.intro | rfl | omega | trivial, by first | exact True.intro | rfl | omega | trivial, by first | exact True.intro | rfl | omega | trivial, by first | exact True.intro | rfl | omega | trivial, by first | exact True.intro | rfl | omega | trivial⟩⟩)⟩
        · skip
          refine go_toq PM170 (k := 7) (pc' := 160) (L' := [some (.inr (.inr (some 79))), some (.inl 11)]) (st' := [.inr (.inr (some 79))]) (w' := (SH, dt8)) rfl ?_
          refine go_callq PM170 PM159 (Q' := _) rfl rfl rfl rfl (sp_X6_next0_p1 L xs sio (d + 6) dt8 hI9   (by first | exact True.intro | rfl | omega | trivial) (by first | exact True.intro | rfl | omega | trivial)) ?_
          rintro _ _ ⟨dt116, rfl, hI117, hF118, h115⟩
          refine ⟨rfl, ?_⟩
          have hF119 : Fr [79, 84] dt dt116 := Fr_tr hF11 hF118 (by decide)
          rcases h115 with ⟨rfl, h115⟩
          obtain ⟨h115_0, h115_1, h115_2, h115_3, h115_4, h115_5, h115_6, h115_7, h115_8⟩ := h115
          have hq120 := h115_0
          rw [show dt8 85 = dt 85 from funext (hF11 85 (by decide)), show dt8 79 12 = dt 79 12 by omega, hbb, show (dt 79 12).toNat = n by omega] at hq120
          have hc121 : CUR 1 b n dt116 (j14 + 1) := CUR_n hc16 hq120
          have hi122 : j14 + 1 ≤ t := by omega
          have av123 : dt8 79 15 + 1 ≤ dt8 79 13 := by omega
          have hp124 : (gC (KF 1 b n) (VF b n) (j + 1)) i = (gE (KF 1 b n) (VF b n)) (j14 + 1) := hp17.trans (by show gR1 _ _ j14 = _; unfold gR1; rw [if_pos (by omega)])
          clear cr19 cb20 cv21 ck22
          have cr125 := CUR_R hc121 (.inr rfl)
          have cb126 := CUR_b hc121
          have cv127 := CUR_v hc121
          have ck128 := KZ_lt (i := (j14 + 1)) hz
          have c1129 := (hc121).1
          have ci130 := hi122
          refine go_toq PM170 (k := 1) (pc' := 164) (L' := [some (.inr (.inr (some 79))), some (.inl 11)]) (st' := [.inr (.inr (some 79))]) (w' := (SH, dt116)) rfl ?_
          refine go_callq PM170 PM165 (Q' := _) rfl rfl rfl rfl (sp_X6_sumUp_g L xs sio (d + 3) dt116 hI117 b n t (j14 + 1) (by first | exact hbb | (rw [show dt116 85 = dt 85 from funext (hF119 85 (by decide)), show dt116 79 12 = dt 79 12 by omega]; exact hbb)) (by omega) hz ht hc121 hi122 hn5  (by first | exact True.intro | rfl | omega | trivial) (by first | exact True.intro | rfl | omega | trivial)) ?_
          rintro _ _ ⟨dt132, rfl, hI133, hF134, h131⟩
          refine ⟨rfl, ?_⟩
          have hF135 : Fr [79, 84] dt dt132 := Fr_tr hF119 hF134 (by decide)
          rcases h131 with ⟨rfl, h131⟩ | ⟨rfl, h131⟩
          · skip
            obtain ⟨h131_0, h131_1, h131_2, h131_3, h131_4⟩ := h131
            have fl136 := RSX_0 h131_0 rfl
            have fe137 : (gC (KF 1 b n) (VF b n) (j + 1)) i = (gE (KF 1 b n) (VF b n)) (j14 + 1) := hp124.trans ((show (gE (KF 1 b n) (VF b n)) (j14 + 1) = gB ((gE (KF 1 b n) (VF b n)) (j14 + 1)) gOk by exact gB_id.symm).trans (gB_no fl136.1))
            refine go_retq PM170 (k := 2) (r := some (.inl 0)) (w1 := (SH, dt132)) rfl ?_
            exact ⟨dt132, rfl, hI133, hF135, (Or.inl ⟨rfl, ⟨by first | exact RSX_f fe137 fl136 (by omega) (by omega) | exact RSX_no (k := 1) (j := (j14 + 1)) (hp124.trans (by show gR1 _ _ _ = _; unfold gR1; rw [if_neg (by omega)])) (by decide) (by omega) (by show _ = ((TP b n (j14 + 1) : Nat) : Int); omega), by first | exact True.intro | rfl | omega | trivial, by first | exact True.intro | rfl | omega | trivial, by first | exact True.intro | rfl | omega | trivial, by first | exact True.intro | rfl | omega | trivial⟩⟩)⟩
          · skip
            obtain ⟨h131_0, h131_1, h131_2, h131_3, h131_4, h131_5, h131_6, h131_7, h131_8, h131_9⟩ := h131
            obtain ⟨j138, ej139, hc140⟩ := RSX_1 h131_0 (by decide)
            have hp141 : (gC (KF 1 b n) (VF b n) (j + 1)) i = gOk j138 := hp124.trans ((show (gE (KF 1 b n) (VF b n)) (j14 + 1) = gB ((gE (KF 1 b n) (VF b n)) (j14 + 1)) gOk by exact gB_id.symm).trans (by rw [ej139]; exact gB_0))
            have hi142 : j138 ≤ t := by have z := gE_M (K := (KF 1 b n)) (V := (VF b n)) (i := (j14 + 1)) hz; rw [ej139] at z; have y := z rfl; simp only at y; omega
            clear cr125 cb126 cv127 ck128
            have cr143 := CUR_R hc140 (.inr rfl)
            have cb144 := CUR_b hc140
            have cv145 := CUR_v hc140
            have ck146 := KZ_lt (i := j138) hz
            have c1147 := (hc140).1
            have ci148 := hi142
            refine go_toq PM170 (k := 4) (pc' := 175) (L' := [some (.inr (.inr (some 79))), some (.inl 11)]) (st' := [.inl 0, .inl 11, .inr (.inr (some 79))]) (w' := (SH, dt132)) rfl ?_
            refine go_callq PM170 PM163 (Q' := _) rfl rfl rfl rfl (sp_X6_lay_g L xs sio (d + 12) dt132 hI133  11 ⟨by decide, by decide⟩ 0 ⟨by decide, by decide⟩ (by first | exact True.intro | rfl | omega | trivial)) ?_
            rintro _ _ ⟨dt150, rfl, hI151, hF152, h149⟩
            refine ⟨rfl, ?_⟩
            have hF153 : Fr [79, 84] dt dt150 := Fr_tr hF135 hF152 (by decide)
            rcases h149 with ⟨rfl, h149⟩
            obtain ⟨h149_0, h149_1, h149_2, h149_3, h149_4, h149_5, h149_6, h149_7, h149_8, h149_9, h149_10⟩ := h149
            have hc154 : CUR 1 b n dt150 j138 := CUR_sm hc140 (by omega) (by omega) (by omega) (by omega)
            refine go_retq PM170 (k := 1) (r := some (.inl 1)) (w1 := (SH, dt150)) rfl ?_
            exact ⟨dt150, rfl, hI151, hF153, (Or.inr ⟨rfl, ⟨by exact RSX_ok (hp141.trans (by rfl)) hc154, by first | exact True.intro | rfl | omega | trivial, by first | exact True.intro | rfl | omega | trivial, by exact (InvC_get (by assumption) 79 15 rfl rfl).2, by first | exact True.intro | rfl | omega | trivial, by first | exact True.intro | rfl | omega | trivial, by first | exact True.intro | rfl | omega | trivial, by first | exact True.intro | rfl | omega | trivial, by first | exact True.intro | rfl | omega | trivial, by first | exact True.intro | rfl | omega | trivial⟩⟩)⟩
    · skip
      refine go_toq PM170 (k := 1) (pc' := 55) (L' := [some (.inr (.inr (some 79))), none]) (st' := [.inr (.inr (some 79))]) (w' := (SH, dt)) rfl ?_
      refine go_callq PM170 PM164 (Q' := _) rfl rfl rfl rfl (sp_X6_opens_o L xs sio (d + 5) dt hI b n t i (by first | exact hbb | (rw [show dt 85 = dt 85 from funext (hF 85 (by decide)), show dt 79 12 = dt 79 12 by omega]; exact hbb)) (by omega) hz ht hc hi hn5  (by first | exact True.intro | rfl | omega | trivial) (by first | exact True.intro | rfl | omega | trivial) (by first | exact True.intro | rfl | omega | trivial)) ?_
      rintro _ _ ⟨dt156, rfl, hI157, hF158, h155⟩
      refine ⟨rfl, ?_⟩
      have hF159 : Fr [79, 84] dt dt156 := Fr_tr hF hF158 (by decide)
      rcases h155 with ⟨rfl, h155⟩
      obtain ⟨h155_0, h155_1, h155_2, h155_3, h155_4, h155_5, h155_6, h155_7, h155_8, h155_9⟩ := h155
      obtain ⟨j160, ej161, hc162⟩ := RSX_1 h155_0 (by decide)
      have hp163 : (gC (KF 1 b n) (VF b n) (j + 1)) i = (fun i => gB (gB_ (KF 1 b n) (VF b n) j i) (gK (KF 1 b n) 41)) j160 := (rfl : (gC (KF 1 b n) (VF b n) (j + 1)) i = (gC (KF 1 b n) (VF b n) (j + 1)) i).trans ((show (gC (KF 1 b n) (VF b n) (j + 1)) i = gB (gOp i) (fun i => gB (gB_ (KF 1 b n) (VF b n) j i) (gK (KF 1 b n) 41)) by exact gC_p (by omega)).trans (by rw [ej161]; exact gB_0))
      have hi164 : j160 ≤ t := by have z : gOp i = (0, j160) := ej161; have y : i + 1 = j160 := congrArg Prod.snd z; omega
      clear cr0 cb0 cv0 ck0
      have cr165 := CUR_R hc162 (.inr rfl)
      have cb166 := CUR_b hc162
      have cv167 := CUR_v hc162
      have ck168 := KZ_lt (i := j160) hz
      have c1169 := (hc162).1
      have ci170 := hi164
      refine go_toq PM170 (k := 2) (pc' := 62) (L' := [some (.inr (.inr (some 79))), none]) (st' := [.inr (.inr (some 79))]) (w' := (SH, dt156)) rfl ?_
      refine go_callq PM170 PM168 (Q' := _) rfl rfl rfl rfl (IH_X6_any L xs sio (d + 0) dt156 hI157 b n t j160 (by first | exact hbb | (rw [show dt156 85 = dt 85 from funext (hF159 85 (by decide)), show dt156 79 12 = dt 79 12 by omega]; exact hbb)) (by omega) hz ht hc162 hi164 hn5  (by first | exact True.intro | rfl | omega | trivial) (by first | exact True.intro | rfl | omega | trivial) (by first | exact True.intro | rfl | omega | trivial) (by first | exact True.intro | rfl | omega | trivial)) ?_
      rintro _ _ ⟨dt172, rfl, hI173, hF174, h171⟩
      refine ⟨rfl, ?_⟩
      have hF175 : Fr [79, 84] dt dt172 := Fr_tr hF159 hF174 (by decide)
      rcases h171 with ⟨rfl, h171⟩ | ⟨rfl, h171⟩
      · skip
        obtain ⟨h171_0, h171_1, h171_2, h171_3, h171_4⟩ := h171
        have fl176 := RSX_0 h171_0 rfl
        have fe177 : (gC (KF 1 b n) (VF b n) (j + 1)) i = (gB_ (KF 1 b n) (VF b n) j) j160 := hp163.trans ((show (fun i => gB (gB_ (KF 1 b n) (VF b n) j i) (gK (KF 1 b n) 41)) j160 = gB ((gB_ (KF 1 b n) (VF b n) j) j160) (gK (KF 1 b n) 41) by rfl).trans (gB_no fl176.1))
        refine go_retq PM170 (k := 2) (r := some (.inl 0)) (w1 := (SH, dt172)) rfl ?_
        exact ⟨dt172, rfl, hI173, hF175, (Or.inl ⟨rfl, ⟨by first | exact RSX_f fe177 fl176 (by omega) (by omega) | exact RSX_no (k := 1) (j := j160) (hp163.trans (by show gR1 _ _ _ = _; unfold gR1; rw [if_neg (by omega)])) (by decide) (by omega) (by show _ = ((TP b n j160 : Nat) : Int); omega), by first | exact True.intro | rfl | omega | trivial, by first | exact True.intro | rfl | omega | trivial, by first | exact True.intro | rfl | omega | trivial, by first | exact True.intro | rfl | omega | trivial⟩⟩)⟩
      · skip
        obtain ⟨h171_0, h171_1, h171_2, h171_3, h171_4, h171_5, h171_6, h171_7, h171_8, h171_9⟩ := h171
        obtain ⟨j178, ej179, hc180⟩ := RSX_1 h171_0 (by decide)
        have hp181 : (gC (KF 1 b n) (VF b n) (j + 1)) i = (gK (KF 1 b n) 41) j178 := hp163.trans ((show (fun i => gB (gB_ (KF 1 b n) (VF b n) j i) (gK (KF 1 b n) 41)) j160 = gB ((gB_ (KF 1 b n) (VF b n) j) j160) (gK (KF 1 b n) 41) by rfl).trans (by rw [ej179]; exact gB_0))
        have hi182 : j178 ≤ t := by have z := gB__M (K := (KF 1 b n)) (V := (VF b n)) (d := j) (i := j160) hz; rw [ej179] at z; have y := z rfl; simp only at y; omega
        clear cr165 cb166 cv167 ck168
        have cr183 := CUR_R hc180 (.inr rfl)
        have cb184 := CUR_b hc180
        have cv185 := CUR_v hc180
        have ck186 := KZ_lt (i := j178) hz
        have c1187 := (hc180).1
        have ci188 := hi182
        refine go_toq PM170 (k := 3) (pc' := 72) (L' := [some (.inr (.inr (some 79))), none]) (st' := [.inl 141, .inr (.inr (some 79))]) (w' := (SH, dt172)) rfl ?_
        refine go_callq PM170 PM161 (Q' := _) rfl rfl rfl rfl (sp_X6_need0_g1 L xs sio (d + 5) dt172 hI173 b n t j178 (by first | exact hbb | (rw [show dt172 85 = dt 85 from funext (hF175 85 (by decide)), show dt172 79 12 = dt 79 12 by omega]; exact hbb)) (by omega) hz ht hc180 hi182 hn5 141 ⟨by decide, by decide⟩ (by first | exact True.intro | rfl | omega | trivial)) ?_
        rintro _ _ ⟨dt190, rfl, hI191, hF192, h189⟩
        refine ⟨rfl, ?_⟩
        have hF193 : Fr [79, 84] dt dt190 := Fr_tr hF175 hF192 (by decide)
        rcases h189 with ⟨rfl, h189⟩ | ⟨rfl, h189⟩
        · skip
          obtain ⟨h189_0, h189_1, h189_2, h189_3, h189_4⟩ := h189
          have fl194 := RSX_0 h189_0 rfl
          have fe195 : (gC (KF 1 b n) (VF b n) (j + 1)) i = (gK (KF 1 b n) (141 - 100)) j178 := hp181.trans ((show (gK (KF 1 b n) 41) j178 = gB ((gK (KF 1 b n) (141 - 100)) j178) gOk by exact gB_id.symm).trans (gB_no fl194.1))
          refine go_retq PM170 (k := 2) (r := some (.inl 0)) (w1 := (SH, dt190)) rfl ?_
          exact ⟨dt190, rfl, hI191, hF193, (Or.inl ⟨rfl, ⟨by first | exact RSX_f fe195 fl194 (by omega) (by omega) | exact RSX_no (k := 1) (j := j178) (hp181.trans (by show gR1 _ _ _ = _; unfold gR1; rw [if_neg (by omega)])) (by decide) (by omega) (by show _ = ((TP b n j178 : Nat) : Int); omega), by first | exact True.intro | rfl | omega | trivial, by first | exact True.intro | rfl | omega | trivial, by first | exact True.intro | rfl | omega | trivial, by first | exact True.intro | rfl | omega | trivial⟩⟩)⟩
        · skip
          obtain ⟨h189_0, h189_1, h189_2, h189_3, h189_4, h189_5, h189_6, h189_7, h189_8, h189_9⟩ := h189
          obtain ⟨j196, ej197, hc198⟩ := RSX_1 h189_0 (by decide)
          have hp199 : (gC (KF 1 b n) (VF b n) (j + 1)) i = gOk j196 := hp181.trans ((show (gK (KF 1 b n) 41) j178 = gB ((gK (KF 1 b n) (141 - 100)) j178) gOk by exact gB_id.symm).trans (by rw [ej197]; exact gB_0))
          have hi200 : j196 ≤ t := by have z := (fun (h : KZ (KF 1 b n) t) => gK_M (K := (KF 1 b n)) (k := 141 - 100) (i := j178) h (by decide)) hz; rw [ej197] at z; have y := z rfl; simp only at y; omega
          clear cr183 cb184 cv185 ck186
          have cr201 := CUR_R hc198 (.inr rfl)
          have cb202 := CUR_b hc198
          have cv203 := CUR_v hc198
          have ck204 := KZ_lt (i := j196) hz
          have c1205 := (hc198).1
          have ci206 := hi200
          have r207 : 0 ≤ dt190 79 20 ∧ dt190 79 20 ≤ 8 := InvC_get hI191 79 20 rfl rfl
          refine go_toq PM170 (k := 6) (pc' := 87) (L' := [some (.inr (.inr (some 79))), none]) (st' := [.inl ((dt190 79 20) - 1), .inr (.inr (some 79))]) (w' := (SH, dt190)) rfl ?_
          have hI208 : InvC (u2 dt190 79 20 ((dt190 79 20) - 1)) := InvC_u2 hI191 (lo := 0) (hi := 8) rfl rfl rfl (by omega) (by omega)
          have hF209 : Fr [79, 84] dt (u2 dt190 79 20 ((dt190 79 20) - 1)) := Fr_u2 hF193 (by decide)
          have w210 : (u2 dt190 79 20 ((dt190 79 20) - 1)) 79 2 = dt190 79 2 := rfl
          have w211 : (u2 dt190 79 20 ((dt190 79 20) - 1)) 79 9 = dt190 79 9 := rfl
          have w212 : (u2 dt190 79 20 ((dt190 79 20) - 1)) 79 10 = dt190 79 10 := rfl
          have w213 : (u2 dt190 79 20 ((dt190 79 20) - 1)) 79 11 = dt190 79 11 := rfl
          have w214 : (u2 dt190 79 20 ((dt190 79 20) - 1)) 79 12 = dt190 79 12 := rfl
          have w215 : (u2 dt190 79 20 ((dt190 79 20) - 1)) 79 13 = dt190 79 13 := rfl
          have w216 : (u2 dt190 79 20 ((dt190 79 20) - 1)) 79 14 = dt190 79 14 := rfl
          have w217 : (u2 dt190 79 20 ((dt190 79 20) - 1)) 79 15 = dt190 79 15 := rfl
          have w218 : (u2 dt190 79 20 ((dt190 79 20) - 1)) 79 16 = dt190 79 16 := rfl
          have w219 : (u2 dt190 79 20 ((dt190 79 20) - 1)) 79 17 = dt190 79 17 := rfl
          have w220 : (u2 dt190 79 20 ((dt190 79 20) - 1)) 79 18 = dt190 79 18 := rfl
          have w221 : (u2 dt190 79 20 ((dt190 79 20) - 1)) 79 20 = (dt190 79 20) - 1 := rfl
          have hc222 : CUR 1 b n (u2 dt190 79 20 ((dt190 79 20) - 1)) j196 := CUR_sm hc198 rfl rfl rfl rfl
          refine go_smpq PM170 (L' := [some (.inr (.inr (some 79))), none]) (st' := []) (w' := (SH, (u2 dt190 79 20 ((dt190 79 20) - 1)))) rfl rfl (s_pf rfl rfl rfl rfl ⟨by omega, by omega⟩) ?_
          refine go_retq PM170 (k := 1) (r := some (.inl 1)) (w1 := (SH, (u2 dt190 79 20 ((dt190 79 20) - 1)))) rfl ?_
          exact ⟨(u2 dt190 79 20 ((dt190 79 20) - 1)), rfl, hI208, hF209, (Or.inr ⟨rfl, ⟨by exact RSX_ok (hp199.trans (by rfl)) hc222, by first | exact True.intro | rfl | omega | trivial, by first | exact True.intro | rfl | omega | trivial, by exact (InvC_get (by assumption) 79 15 rfl rfl).2, by first | exact True.intro | rfl | omega | trivial, by first | exact True.intro | rfl | omega | trivial, by first | exact True.intro | rfl | omega | trivial, by first | exact True.intro | rfl | omega | trivial, by first | exact True.intro | rfl | omega | trivial, by first | exact True.intro | rfl | omega | trivial⟩⟩)⟩
  · skip
    refine go_toq PM170 (k := 1) (pc' := 10) (L' := [some (.inr (.inr (some 79))), none]) (st' := [.inr (.inr (some 79))]) (w' := (SH, dt)) rfl ?_
    refine go_callq PM170 PM164 (Q' := _) rfl rfl rfl rfl (sp_X6_opens_o L xs sio (d + 5) dt hI b n t i (by first | exact hbb | (rw [show dt 85 = dt 85 from funext (hF 85 (by decide)), show dt 79 12 = dt 79 12 by omega]; exact hbb)) (by omega) hz ht hc hi hn5  (by first | exact True.intro | rfl | omega | trivial) (by first | exact True.intro | rfl | omega | trivial) (by first | exact True.intro | rfl | omega | trivial)) ?_
    rintro _ _ ⟨dt224, rfl, hI225, hF226, h223⟩
    refine ⟨rfl, ?_⟩
    have hF227 : Fr [79, 84] dt dt224 := Fr_tr hF hF226 (by decide)
    rcases h223 with ⟨rfl, h223⟩
    obtain ⟨h223_0, h223_1, h223_2, h223_3, h223_4, h223_5, h223_6, h223_7, h223_8, h223_9⟩ := h223
    obtain ⟨j228, ej229, hc230⟩ := RSX_1 h223_0 (by decide)
    have hp231 : (gC (KF 1 b n) (VF b n) (j + 1)) i = (gC (KF 1 b n) (VF b n) j) j228 := (rfl : (gC (KF 1 b n) (VF b n) (j + 1)) i = (gC (KF 1 b n) (VF b n) (j + 1)) i).trans ((show (gC (KF 1 b n) (VF b n) (j + 1)) i = gB (gOp i) (gC (KF 1 b n) (VF b n) j) by exact gC_n (by omega)).trans (by rw [ej229]; exact gB_0))
    have hi232 : j228 ≤ t := by have z : gOp i = (0, j228) := ej229; have y : i + 1 = j228 := congrArg Prod.snd z; omega
    clear cr0 cb0 cv0 ck0
    have cr233 := CUR_R hc230 (.inr rfl)
    have cb234 := CUR_b hc230
    have cv235 := CUR_v hc230
    have ck236 := KZ_lt (i := j228) hz
    have c1237 := (hc230).1
    have ci238 := hi232
    refine go_toq PM170 (k := 2) (pc' := 17) (L' := [some (.inr (.inr (some 79))), none]) (st' := [.inr (.inr (some 79))]) (w' := (SH, dt224)) rfl ?_
    refine go_callq PM170 PM170 (Q' := _) rfl rfl rfl rfl (IH_X6_one L xs sio (d + 2) dt224 hI225 b n t j228 (by first | exact hbb | (rw [show dt224 85 = dt 85 from funext (hF227 85 (by decide)), show dt224 79 12 = dt 79 12 by omega]; exact hbb)) (by omega) hz ht hc230 hi232 hn5  (by first | exact True.intro | rfl | omega | trivial) (by first | exact True.intro | rfl | omega | trivial) (by first | exact True.intro | rfl | omega | trivial) (by first | exact True.intro | rfl | omega | trivial)) ?_
    rintro _ _ ⟨dt240, rfl, hI241, hF242, h239⟩
    refine ⟨rfl, ?_⟩
    have hF243 : Fr [79, 84] dt dt240 := Fr_tr hF227 hF242 (by decide)
    rcases h239 with ⟨rfl, h239⟩ | ⟨rfl, h239⟩
    · skip
      obtain ⟨h239_0, h239_1, h239_2, h239_3, h239_4⟩ := h239
      have fl244 := RSX_0 h239_0 rfl
      have fe245 : (gC (KF 1 b n) (VF b n) (j + 1)) i = (gC (KF 1 b n) (VF b n) j) j228 := hp231.trans ((show (gC (KF 1 b n) (VF b n) j) j228 = gB ((gC (KF 1 b n) (VF b n) j) j228) gOk by exact gB_id.symm).trans (gB_no fl244.1))
      refine go_retq PM170 (k := 2) (r := some (.inl 0)) (w1 := (SH, dt240)) rfl ?_
      exact ⟨dt240, rfl, hI241, hF243, (Or.inl ⟨rfl, ⟨by first | exact RSX_f fe245 fl244 (by omega) (by omega) | exact RSX_no (k := 1) (j := j228) (hp231.trans (by show gR1 _ _ _ = _; unfold gR1; rw [if_neg (by omega)])) (by decide) (by omega) (by show _ = ((TP b n j228 : Nat) : Int); omega), by first | exact True.intro | rfl | omega | trivial, by first | exact True.intro | rfl | omega | trivial, by first | exact True.intro | rfl | omega | trivial, by first | exact True.intro | rfl | omega | trivial⟩⟩)⟩
    · skip
      obtain ⟨h239_0, h239_1, h239_2, h239_3, h239_4, h239_5, h239_6, h239_7, h239_8, h239_9⟩ := h239
      obtain ⟨j246, ej247, hc248⟩ := RSX_1 h239_0 (by decide)
      have hp249 : (gC (KF 1 b n) (VF b n) (j + 1)) i = gOk j246 := hp231.trans ((show (gC (KF 1 b n) (VF b n) j) j228 = gB ((gC (KF 1 b n) (VF b n) j) j228) gOk by exact gB_id.symm).trans (by rw [ej247]; exact gB_0))
      have hi250 : j246 ≤ t := by have z := (fun (h : KZ (KF 1 b n) t) => gC_M (K := (KF 1 b n)) (V := (VF b n)) h j j228) hz; rw [ej247] at z; have y := z rfl; simp only at y; omega
      clear cr233 cb234 cv235 ck236
      have cr251 := CUR_R hc248 (.inr rfl)
      have cb252 := CUR_b hc248
      have cv253 := CUR_v hc248
      have ck254 := KZ_lt (i := j246) hz
      have c1255 := (hc248).1
      have ci256 := hi250
      have r257 : 0 ≤ dt240 79 20 ∧ dt240 79 20 ≤ 8 := InvC_get hI241 79 20 rfl rfl
      refine go_toq PM170 (k := 6) (pc' := 32) (L' := [some (.inr (.inr (some 79))), none]) (st' := [.inl ((dt240 79 20) - 1), .inr (.inr (some 79))]) (w' := (SH, dt240)) rfl ?_
      have hI258 : InvC (u2 dt240 79 20 ((dt240 79 20) - 1)) := InvC_u2 hI241 (lo := 0) (hi := 8) rfl rfl rfl (by omega) (by omega)
      have hF259 : Fr [79, 84] dt (u2 dt240 79 20 ((dt240 79 20) - 1)) := Fr_u2 hF243 (by decide)
      have w260 : (u2 dt240 79 20 ((dt240 79 20) - 1)) 79 2 = dt240 79 2 := rfl
      have w261 : (u2 dt240 79 20 ((dt240 79 20) - 1)) 79 9 = dt240 79 9 := rfl
      have w262 : (u2 dt240 79 20 ((dt240 79 20) - 1)) 79 10 = dt240 79 10 := rfl
      have w263 : (u2 dt240 79 20 ((dt240 79 20) - 1)) 79 11 = dt240 79 11 := rfl
      have w264 : (u2 dt240 79 20 ((dt240 79 20) - 1)) 79 12 = dt240 79 12 := rfl
      have w265 : (u2 dt240 79 20 ((dt240 79 20) - 1)) 79 13 = dt240 79 13 := rfl
      have w266 : (u2 dt240 79 20 ((dt240 79 20) - 1)) 79 14 = dt240 79 14 := rfl
      have w267 : (u2 dt240 79 20 ((dt240 79 20) - 1)) 79 15 = dt240 79 15 := rfl
      have w268 : (u2 dt240 79 20 ((dt240 79 20) - 1)) 79 16 = dt240 79 16 := rfl
      have w269 : (u2 dt240 79 20 ((dt240 79 20) - 1)) 79 17 = dt240 79 17 := rfl
      have w270 : (u2 dt240 79 20 ((dt240 79 20) - 1)) 79 18 = dt240 79 18 := rfl
      have w271 : (u2 dt240 79 20 ((dt240 79 20) - 1)) 79 20 = (dt240 79 20) - 1 := rfl
      have hc272 : CUR 1 b n (u2 dt240 79 20 ((dt240 79 20) - 1)) j246 := CUR_sm hc248 rfl rfl rfl rfl
      refine go_smpq PM170 (L' := [some (.inr (.inr (some 79))), none]) (st' := []) (w' := (SH, (u2 dt240 79 20 ((dt240 79 20) - 1)))) rfl rfl (s_pf rfl rfl rfl rfl ⟨by omega, by omega⟩) ?_
      refine go_toq PM170 (k := 3) (pc' := 39) (L' := [some (.inr (.inr (some 79))), none]) (st' := [.inl 0, .inl 14, .inr (.inr (some 79))]) (w' := (SH, (u2 dt240 79 20 ((dt240 79 20) - 1)))) rfl ?_
      refine go_callq PM170 PM163 (Q' := _) rfl rfl rfl rfl (sp_X6_lay_g L xs sio (d + 12) (u2 dt240 79 20 ((dt240 79 20) - 1)) hI258  14 ⟨by decide, by decide⟩ 0 ⟨by decide, by decide⟩ (by first | exact True.intro | rfl | omega | trivial)) ?_
      rintro _ _ ⟨dt274, rfl, hI275, hF276, h273⟩
      refine ⟨rfl, ?_⟩
      have hF277 : Fr [79, 84] dt dt274 := Fr_tr hF259 hF276 (by decide)
      rcases h273 with ⟨rfl, h273⟩
      obtain ⟨h273_0, h273_1, h273_2, h273_3, h273_4, h273_5, h273_6, h273_7, h273_8, h273_9, h273_10⟩ := h273
      have hc278 : CUR 1 b n dt274 j246 := CUR_sm hc272 (by omega) (by omega) (by omega) (by omega)
      refine go_retq PM170 (k := 1) (r := some (.inl 1)) (w1 := (SH, dt274)) rfl ?_
      exact ⟨dt274, rfl, hI275, hF277, (Or.inr ⟨rfl, ⟨by exact RSX_ok (hp249.trans (by rfl)) hc278, by first | exact True.intro | rfl | omega | trivial, by first | exact True.intro | rfl | omega | trivial, by exact (InvC_get (by assumption) 79 15 rfl rfl).2, by first | exact True.intro | rfl | omega | trivial, by first | exact True.intro | rfl | omega | trivial, by first | exact True.intro | rfl | omega | trivial, by first | exact True.intro | rfl | omega | trivial, by first | exact True.intro | rfl | omega | trivial, by first | exact True.intro | rfl | omega | trivial⟩⟩)⟩
theorem lv_all_X6_one_g : ∀ j : Nat, (∀ (L : Nat) (xs : Nat → Int32) (sio : Option Nat) (d : Nat) (dt : Nat → Nat → Int) (hI : InvC dt) (b : Nat → Int) (n t i : Nat) (hbb : mB (dt 85) (dt 79 12) = b) (hnn : dt 79 12 = (n : Int)) (hz : KZ (KF 1 b n) t) (ht : t ≤ 500) (hc : CUR 1 b n dt i) (hi : i ≤ t) (hn5 : n ≤ 500) (h_p0 : dt 79 9 = 1) (h_p1 : dt 79 11 ≤ dt 79 15) (h_p2 : dt 79 20 + ((j : Nat) : Int) = 8) (h_p3 : 3 * j ≤ d), GO (am_XX L xs sio) (d + 10) 170 0 [some (.inr (.inr (some 79))), none] [] (SH, dt) (fun r w2 => ∃ dt2 : Nat → Nat → Int, w2 = (SH, dt2) ∧ InvC dt2 ∧ Fr [79, 84] dt dt2 ∧ ((r = some (.inl 0) ∧ (RSX 1 b n i dt2 0 ((gC (KF 1 b n) (VF b n) j) i)) ∧ (dt2 79 2 = dt 79 2) ∧ (dt2 79 9 = dt 79 9) ∧ (dt2 79 10 = dt 79 10) ∧ (dt2 79 12 = dt 79 12)) ∨ (r = some (.inl 1) ∧ (RSX 1 b n i dt2 1 ((gC (KF 1 b n) (VF b n) j) i)) ∧ (dt 79 15 + dt2 79 11 ≤ dt2 79 15 + dt 79 11) ∧ (dt 79 11 + 1 ≤ dt2 79 11) ∧ (dt2 79 15 ≤ 500) ∧ (dt2 79 2 = dt 79 2) ∧ (dt2 79 9 = dt 79 9) ∧ (dt2 79 10 = dt 79 10) ∧ (dt2 79 12 = dt 79 12) ∧ (dt2 79 17 = dt 79 17) ∧ (dt2 79 20 = dt 79 20))))) ∧ (∀ (L : Nat) (xs : Nat → Int32) (sio : Option Nat) (d : Nat) (dt : Nat → Nat → Int) (hI : InvC dt) (b : Nat → Int) (n t i : Nat) (hbb : mB (dt 85) (dt 79 12) = b) (hnn : dt 79 12 = (n : Int)) (hz : KZ (KF 1 b n) t) (ht : t ≤ 500) (hc : CUR 1 b n dt i) (hi : i ≤ t) (hn5 : n ≤ 500) (h_p0 : dt 79 9 = 1) (h_p1 : dt 79 11 ≤ dt 79 15) (h_p2 : dt 79 20 + ((j : Nat) : Int) = 8) (h_p3 : 3 * j ≤ d), GO (am_XX L xs sio) (d + 11) 169 0 [some (.inr (.inr (some 79)))] [] (SH, dt) (fun r w2 => ∃ dt2 : Nat → Nat → Int, w2 = (SH, dt2) ∧ InvC dt2 ∧ Fr [79, 84] dt dt2 ∧ ((r = some (.inl 0) ∧ (RSX 1 b n i dt2 0 ((gEv (KF 1 b n) (VF b n) j) i)) ∧ (dt2 79 2 = dt 79 2) ∧ (dt2 79 9 = dt 79 9) ∧ (dt2 79 10 = dt 79 10) ∧ (dt2 79 12 = dt 79 12)) ∨ (r = some (.inl 1) ∧ (RSX 1 b n i dt2 1 ((gEv (KF 1 b n) (VF b n) j) i)) ∧ (dt 79 15 + dt2 79 11 ≤ dt2 79 15 + dt 79 11) ∧ (dt 79 11 + 1 ≤ dt2 79 11) ∧ (dt2 79 15 ≤ 500) ∧ (dt2 79 2 = dt 79 2) ∧ (dt2 79 9 = dt 79 9) ∧ (dt2 79 10 = dt 79 10) ∧ (dt2 79 12 = dt 79 12) ∧ (dt2 79 17 = dt 79 17) ∧ (dt2 79 20 = dt 79 20))))) ∧ (∀ (L : Nat) (xs : Nat → Int32) (sio : Option Nat) (d : Nat) (dt : Nat → Nat → Int) (hI : InvC dt) (b : Nat → Int) (n t i : Nat) (hbb : mB (dt 85) (dt 79 12) = b) (hnn : dt 79 12 = (n : Int)) (hz : KZ (KF 1 b n) t) (ht : t ≤ 500) (hc : CUR 1 b n dt i) (hi : i ≤ t) (hn5 : n ≤ 500) (h_p0 : dt 79 9 = 1) (h_p1 : dt 79 11 ≤ dt 79 15) (h_p2 : dt 79 20 + ((j : Nat) : Int) = 8) (h_p3 : 3 * j ≤ d), GO (am_XX L xs sio) (d + 12) 168 0 [some (.inr (.inr (some 79)))] [] (SH, dt) (fun r w2 => ∃ dt2 : Nat → Nat → Int, w2 = (SH, dt2) ∧ InvC dt2 ∧ Fr [79, 84] dt dt2 ∧ ((r = some (.inl 0) ∧ (RSX 1 b n i dt2 0 ((gB_ (KF 1 b n) (VF b n) j) i)) ∧ (dt2 79 2 = dt 79 2) ∧ (dt2 79 9 = dt 79 9) ∧ (dt2 79 10 = dt 79 10) ∧ (dt2 79 12 = dt 79 12)) ∨ (r = some (.inl 1) ∧ (RSX 1 b n i dt2 1 ((gB_ (KF 1 b n) (VF b n) j) i)) ∧ (dt 79 15 + dt2 79 11 ≤ dt2 79 15 + dt 79 11) ∧ (dt 79 11 + 1 ≤ dt2 79 11) ∧ (dt2 79 15 ≤ 500) ∧ (dt2 79 2 = dt 79 2) ∧ (dt2 79 9 = dt 79 9) ∧ (dt2 79 10 = dt 79 10) ∧ (dt2 79 12 = dt 79 12) ∧ (dt2 79 17 = dt 79 17) ∧ (dt2 79 20 = dt 79 20)))))
  | 0 => by
    have g0 : ∀ (L : Nat) (xs : Nat → Int32) (sio : Option Nat) (d : Nat) (dt : Nat → Nat → Int) (hI : InvC dt) (b : Nat → Int) (n t i : Nat) (hbb : mB (dt 85) (dt 79 12) = b) (hnn : dt 79 12 = (n : Int)) (hz : KZ (KF 1 b n) t) (ht : t ≤ 500) (hc : CUR 1 b n dt i) (hi : i ≤ t) (hn5 : n ≤ 500) (h_p0 : dt 79 9 = 1) (h_p1 : dt 79 11 ≤ dt 79 15) (h_p2 : dt 79 20 + ((0 : Nat) : Int) = 8) (h_p3 : 3 * 0 ≤ d), GO (am_XX L xs sio) (d + 10) 170 0 [some (.inr (.inr (some 79))), none] [] (SH, dt) (fun r w2 => ∃ dt2 : Nat → Nat → Int, w2 = (SH, dt2) ∧ InvC dt2 ∧ Fr [79, 84] dt dt2 ∧ ((r = some (.inl 0) ∧ (RSX 1 b n i dt2 0 ((gC (KF 1 b n) (VF b n) 0) i)) ∧ (dt2 79 2 = dt 79 2) ∧ (dt2 79 9 = dt 79 9) ∧ (dt2 79 10 = dt 79 10) ∧ (dt2 79 12 = dt 79 12)) ∨ (r = some (.inl 1) ∧ (RSX 1 b n i dt2 1 ((gC (KF 1 b n) (VF b n) 0) i)) ∧ (dt 79 15 + dt2 79 11 ≤ dt2 79 15 + dt 79 11) ∧ (dt 79 11 + 1 ≤ dt2 79 11) ∧ (dt2 79 15 ≤ 500) ∧ (dt2 79 2 = dt 79 2) ∧ (dt2 79 9 = dt 79 9) ∧ (dt2 79 10 = dt 79 10) ∧ (dt2 79 12 = dt 79 12) ∧ (dt2 79 17 = dt 79 17) ∧ (dt2 79 20 = dt 79 20)))) := by
      intro z0 z1 z2 z3 z4 z5 z6 z7 z8 z9 z10 z11 z12 z13 z14 z15 z16 z17 z18 z19 z20
      exact sp_X6_one_g8 z0 z1 z2 z3 z4 z5 z6 z7 z8 z9 z10 z11 z12 z13 z14 z15 z16 z17 z18 (by omega)
    have g1 : ∀ (L : Nat) (xs : Nat → Int32) (sio : Option Nat) (d : Nat) (dt : Nat → Nat → Int) (hI : InvC dt) (b : Nat → Int) (n t i : Nat) (hbb : mB (dt 85) (dt 79 12) = b) (hnn : dt 79 12 = (n : Int)) (hz : KZ (KF 1 b n) t) (ht : t ≤ 500) (hc : CUR 1 b n dt i) (hi : i ≤ t) (hn5 : n ≤ 500) (h_p0 : dt 79 9 = 1) (h_p1 : dt 79 11 ≤ dt 79 15) (h_p2 : dt 79 20 + ((0 : Nat) : Int) = 8) (h_p3 : 3 * 0 ≤ d), GO (am_XX L xs sio) (d + 11) 169 0 [some (.inr (.inr (some 79)))] [] (SH, dt) (fun r w2 => ∃ dt2 : Nat → Nat → Int, w2 = (SH, dt2) ∧ InvC dt2 ∧ Fr [79, 84] dt dt2 ∧ ((r = some (.inl 0) ∧ (RSX 1 b n i dt2 0 ((gEv (KF 1 b n) (VF b n) 0) i)) ∧ (dt2 79 2 = dt 79 2) ∧ (dt2 79 9 = dt 79 9) ∧ (dt2 79 10 = dt 79 10) ∧ (dt2 79 12 = dt 79 12)) ∨ (r = some (.inl 1) ∧ (RSX 1 b n i dt2 1 ((gEv (KF 1 b n) (VF b n) 0) i)) ∧ (dt 79 15 + dt2 79 11 ≤ dt2 79 15 + dt 79 11) ∧ (dt 79 11 + 1 ≤ dt2 79 11) ∧ (dt2 79 15 ≤ 500) ∧ (dt2 79 2 = dt 79 2) ∧ (dt2 79 9 = dt 79 9) ∧ (dt2 79 10 = dt 79 10) ∧ (dt2 79 12 = dt 79 12) ∧ (dt2 79 17 = dt 79 17) ∧ (dt2 79 20 = dt 79 20)))) := fun z0 z1 z2 z3 z4 z5 z6 z7 z8 z9 z10 z11 z12 z13 z14 z15 z16 z17 z18 z19 z20 => lv_X6_every_g z0 z1 z2 z3 z4 z5 z6 z7 z8 z9 z10 z11 z12 z13 z14 z15 z16 0 g0 z17 z18 z19 z20
    have g2 : ∀ (L : Nat) (xs : Nat → Int32) (sio : Option Nat) (d : Nat) (dt : Nat → Nat → Int) (hI : InvC dt) (b : Nat → Int) (n t i : Nat) (hbb : mB (dt 85) (dt 79 12) = b) (hnn : dt 79 12 = (n : Int)) (hz : KZ (KF 1 b n) t) (ht : t ≤ 500) (hc : CUR 1 b n dt i) (hi : i ≤ t) (hn5 : n ≤ 500) (h_p0 : dt 79 9 = 1) (h_p1 : dt 79 11 ≤ dt 79 15) (h_p2 : dt 79 20 + ((0 : Nat) : Int) = 8) (h_p3 : 3 * 0 ≤ d), GO (am_XX L xs sio) (d + 12) 168 0 [some (.inr (.inr (some 79)))] [] (SH, dt) (fun r w2 => ∃ dt2 : Nat → Nat → Int, w2 = (SH, dt2) ∧ InvC dt2 ∧ Fr [79, 84] dt dt2 ∧ ((r = some (.inl 0) ∧ (RSX 1 b n i dt2 0 ((gB_ (KF 1 b n) (VF b n) 0) i)) ∧ (dt2 79 2 = dt 79 2) ∧ (dt2 79 9 = dt 79 9) ∧ (dt2 79 10 = dt 79 10) ∧ (dt2 79 12 = dt 79 12)) ∨ (r = some (.inl 1) ∧ (RSX 1 b n i dt2 1 ((gB_ (KF 1 b n) (VF b n) 0) i)) ∧ (dt 79 15 + dt2 79 11 ≤ dt2 79 15 + dt 79 11) ∧ (dt 79 11 + 1 ≤ dt2 79 11) ∧ (dt2 79 15 ≤ 500) ∧ (dt2 79 2 = dt 79 2) ∧ (dt2 79 9 = dt 79 9) ∧ (dt2 79 10 = dt 79 10) ∧ (dt2 79 12 = dt 79 12) ∧ (dt2 79 17 = dt 79 17) ∧ (dt2 79 20 = dt 79 20)))) := fun z0 z1 z2 z3 z4 z5 z6 z7 z8 z9 z10 z11 z12 z13 z14 z15 z16 z17 z18 z19 z20 => lv_X6_any_g z0 z1 z2 z3 z4 z5 z6 z7 z8 z9 z10 z11 z12 z13 z14 z15 z16 0 g1 z17 z18 z19 z20
    exact ⟨g0, g1, g2⟩
  | j + 1 => by
    obtain ⟨h_X6_one, h_X6_every, h_X6_any⟩ := lv_all_X6_one_g j
    have g0 : ∀ (L : Nat) (xs : Nat → Int32) (sio : Option Nat) (d : Nat) (dt : Nat → Nat → Int) (hI : InvC dt) (b : Nat → Int) (n t i : Nat) (hbb : mB (dt 85) (dt 79 12) = b) (hnn : dt 79 12 = (n : Int)) (hz : KZ (KF 1 b n) t) (ht : t ≤ 500) (hc : CUR 1 b n dt i) (hi : i ≤ t) (hn5 : n ≤ 500) (h_p0 : dt 79 9 = 1) (h_p1 : dt 79 11 ≤ dt 79 15) (h_p2 : dt 79 20 + (((j + 1) : Nat) : Int) = 8) (h_p3 : 3 * (j + 1) ≤ d), GO (am_XX L xs sio) (d + 10) 170 0 [some (.inr (.inr (some 79))), none] [] (SH, dt) (fun r w2 => ∃ dt2 : Nat → Nat → Int, w2 = (SH, dt2) ∧ InvC dt2 ∧ Fr [79, 84] dt dt2 ∧ ((r = some (.inl 0) ∧ (RSX 1 b n i dt2 0 ((gC (KF 1 b n) (VF b n) (j + 1)) i)) ∧ (dt2 79 2 = dt 79 2) ∧ (dt2 79 9 = dt 79 9) ∧ (dt2 79 10 = dt 79 10) ∧ (dt2 79 12 = dt 79 12)) ∨ (r = some (.inl 1) ∧ (RSX 1 b n i dt2 1 ((gC (KF 1 b n) (VF b n) (j + 1)) i)) ∧ (dt 79 15 + dt2 79 11 ≤ dt2 79 15 + dt 79 11) ∧ (dt 79 11 + 1 ≤ dt2 79 11) ∧ (dt2 79 15 ≤ 500) ∧ (dt2 79 2 = dt 79 2) ∧ (dt2 79 9 = dt 79 9) ∧ (dt2 79 10 = dt 79 10) ∧ (dt2 79 12 = dt 79 12) ∧ (dt2 79 17 = dt 79 17) ∧ (dt2 79 20 = dt 79 20)))) := by
      intro z0 z1 z2 z3 z4 z5 z6 z7 z8 z9 z10 z11 z12 z13 z14 z15 z16 z17 z18 z19 z20
      have y := lv_X6_one_g z0 z1 z2 (z3 - 3) z4 z5 z6 z7 z8 z9 z10 z11 z12 z13 z14 z15 z16 j h_X6_one h_X6_every h_X6_any z17 z18 z19 (by omega)
      rw [show z3 - 3 + 13 = z3 + 10 by omega] at y
      exact y
    have g1 : ∀ (L : Nat) (xs : Nat → Int32) (sio : Option Nat) (d : Nat) (dt : Nat → Nat → Int) (hI : InvC dt) (b : Nat → Int) (n t i : Nat) (hbb : mB (dt 85) (dt 79 12) = b) (hnn : dt 79 12 = (n : Int)) (hz : KZ (KF 1 b n) t) (ht : t ≤ 500) (hc : CUR 1 b n dt i) (hi : i ≤ t) (hn5 : n ≤ 500) (h_p0 : dt 79 9 = 1) (h_p1 : dt 79 11 ≤ dt 79 15) (h_p2 : dt 79 20 + (((j + 1) : Nat) : Int) = 8) (h_p3 : 3 * (j + 1) ≤ d), GO (am_XX L xs sio) (d + 11) 169 0 [some (.inr (.inr (some 79)))] [] (SH, dt) (fun r w2 => ∃ dt2 : Nat → Nat → Int, w2 = (SH, dt2) ∧ InvC dt2 ∧ Fr [79, 84] dt dt2 ∧ ((r = some (.inl 0) ∧ (RSX 1 b n i dt2 0 ((gEv (KF 1 b n) (VF b n) (j + 1)) i)) ∧ (dt2 79 2 = dt 79 2) ∧ (dt2 79 9 = dt 79 9) ∧ (dt2 79 10 = dt 79 10) ∧ (dt2 79 12 = dt 79 12)) ∨ (r = some (.inl 1) ∧ (RSX 1 b n i dt2 1 ((gEv (KF 1 b n) (VF b n) (j + 1)) i)) ∧ (dt 79 15 + dt2 79 11 ≤ dt2 79 15 + dt 79 11) ∧ (dt 79 11 + 1 ≤ dt2 79 11) ∧ (dt2 79 15 ≤ 500) ∧ (dt2 79 2 = dt 79 2) ∧ (dt2 79 9 = dt 79 9) ∧ (dt2 79 10 = dt 79 10) ∧ (dt2 79 12 = dt 79 12) ∧ (dt2 79 17 = dt 79 17) ∧ (dt2 79 20 = dt 79 20)))) := fun z0 z1 z2 z3 z4 z5 z6 z7 z8 z9 z10 z11 z12 z13 z14 z15 z16 z17 z18 z19 z20 => lv_X6_every_g z0 z1 z2 z3 z4 z5 z6 z7 z8 z9 z10 z11 z12 z13 z14 z15 z16 (j + 1) g0 z17 z18 z19 z20
    have g2 : ∀ (L : Nat) (xs : Nat → Int32) (sio : Option Nat) (d : Nat) (dt : Nat → Nat → Int) (hI : InvC dt) (b : Nat → Int) (n t i : Nat) (hbb : mB (dt 85) (dt 79 12) = b) (hnn : dt 79 12 = (n : Int)) (hz : KZ (KF 1 b n) t) (ht : t ≤ 500) (hc : CUR 1 b n dt i) (hi : i ≤ t) (hn5 : n ≤ 500) (h_p0 : dt 79 9 = 1) (h_p1 : dt 79 11 ≤ dt 79 15) (h_p2 : dt 79 20 + (((j + 1) : Nat) : Int) = 8) (h_p3 : 3 * (j + 1) ≤ d), GO (am_XX L xs sio) (d + 12) 168 0 [some (.inr (.inr (some 79)))] [] (SH, dt) (fun r w2 => ∃ dt2 : Nat → Nat → Int, w2 = (SH, dt2) ∧ InvC dt2 ∧ Fr [79, 84] dt dt2 ∧ ((r = some (.inl 0) ∧ (RSX 1 b n i dt2 0 ((gB_ (KF 1 b n) (VF b n) (j + 1)) i)) ∧ (dt2 79 2 = dt 79 2) ∧ (dt2 79 9 = dt 79 9) ∧ (dt2 79 10 = dt 79 10) ∧ (dt2 79 12 = dt 79 12)) ∨ (r = some (.inl 1) ∧ (RSX 1 b n i dt2 1 ((gB_ (KF 1 b n) (VF b n) (j + 1)) i)) ∧ (dt 79 15 + dt2 79 11 ≤ dt2 79 15 + dt 79 11) ∧ (dt 79 11 + 1 ≤ dt2 79 11) ∧ (dt2 79 15 ≤ 500) ∧ (dt2 79 2 = dt 79 2) ∧ (dt2 79 9 = dt 79 9) ∧ (dt2 79 10 = dt 79 10) ∧ (dt2 79 12 = dt 79 12) ∧ (dt2 79 17 = dt 79 17) ∧ (dt2 79 20 = dt 79 20)))) := fun z0 z1 z2 z3 z4 z5 z6 z7 z8 z9 z10 z11 z12 z13 z14 z15 z16 z17 z18 z19 z20 => lv_X6_any_g z0 z1 z2 z3 z4 z5 z6 z7 z8 z9 z10 z11 z12 z13 z14 z15 z16 (j + 1) g1 z17 z18 z19 z20
    exact ⟨g0, g1, g2⟩
theorem sp_X6_any_g0 (L : Nat) (xs : Nat → Int32) (sio : Option Nat) (d : Nat) (dt : Nat → Nat → Int) (hI : InvC dt) (b : Nat → Int) (n t i : Nat) (hbb : mB (dt 85) (dt 79 12) = b) (hnn : dt 79 12 = (n : Int)) (hz : KZ (KF 1 b n) t) (ht : t ≤ 500) (hc : CUR 1 b n dt i) (hi : i ≤ t) (hn5 : n ≤ 500) (h_p0 : dt 79 9 = 1) (h_p1 : dt 79 11 ≤ dt 79 15) (h_p2 : dt 79 20 = 0) : GO (am_XX L xs sio) (d + 36) 168 0 [some (.inr (.inr (some 79)))] [] (SH, dt) (fun r w2 => ∃ dt2 : Nat → Nat → Int, w2 = (SH, dt2) ∧ InvC dt2 ∧ Fr [79, 84] dt dt2 ∧ ((r = some (.inl 0) ∧ (RSX 1 b n i dt2 0 ((gB_ (KF 1 b n) (VF b n) 8) i)) ∧ (dt2 79 2 = dt 79 2) ∧ (dt2 79 9 = dt 79 9) ∧ (dt2 79 10 = dt 79 10) ∧ (dt2 79 12 = dt 79 12)) ∨ (r = some (.inl 1) ∧ (RSX 1 b n i dt2 1 ((gB_ (KF 1 b n) (VF b n) 8) i)) ∧ (dt 79 15 + dt2 79 11 ≤ dt2 79 15 + dt 79 11) ∧ (dt 79 11 + 1 ≤ dt2 79 11) ∧ (dt2 79 15 ≤ 500) ∧ (dt2 79 2 = dt 79 2) ∧ (dt2 79 9 = dt 79 9) ∧ (dt2 79 10 = dt 79 10) ∧ (dt2 79 12 = dt 79 12) ∧ (dt2 79 17 = dt 79 17) ∧ (dt2 79 20 = dt 79 20)))) := (lv_all_X6_one_g 8).2.2 L xs sio (d + 24) dt hI b n t i hbb hnn hz ht hc hi hn5 h_p0 h_p1 (by omega) (by omega)
