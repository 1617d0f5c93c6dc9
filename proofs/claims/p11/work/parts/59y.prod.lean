set_option maxHeartbeats 1500000 in
set_option maxRecDepth 20000 in
theorem sp_X6_product_g (L : Nat) (xs : Nat → Int32) (sio : Option Nat) (d : Nat) (dt : Nat → Nat → Int) (hI : InvC dt) (b : Nat → Int) (n t i : Nat) (hbb : mB (dt 85) (dt 79 12) = b) (hnn : dt 79 12 = (n : Int)) (hz : KZ (KF 1 b n) t) (ht : t ≤ 500) (hc : CUR 1 b n dt i) (hi : i ≤ t) (hn5 : n ≤ 500)  (h_p0 : dt 79 9 = 1) (h_p1 : dt 79 11 ≤ dt 79 15) : GO (am_XX L xs sio) (d + 8) 166 0 [some (.inr (.inr (some 79))), none, none] [] (SH, dt) (fun r w2 => ∃ dt2 : Nat → Nat → Int, w2 = (SH, dt2) ∧ InvC dt2 ∧ Fr [79, 84] dt dt2 ∧ ((r = some (.inl 0) ∧ (RSX 1 b n i dt2 0 ((gT (KF 1 b n) (VF b n)) i)) ∧ (dt2 79 2 = dt 79 2) ∧ (dt2 79 9 = dt 79 9) ∧ (dt2 79 10 = dt 79 10) ∧ (dt2 79 12 = dt 79 12)) ∨ (r = some (.inl 1) ∧ (RSX 1 b n i dt2 1 ((gT (KF 1 b n) (VF b n)) i)) ∧ (dt 79 15 + dt2 79 11 ≤ dt2 79 15 + dt 79 11) ∧ (dt 79 11 + 1 ≤ dt2 79 11) ∧ (dt2 79 15 ≤ 500) ∧ (dt2 79 2 = dt 79 2) ∧ (dt2 79 9 = dt 79 9) ∧ (dt2 79 10 = dt 79 10) ∧ (dt2 79 12 = dt 79 12) ∧ (dt2 79 17 = dt 79 17) ∧ (dt2 79 20 = dt 79 20)))) := by
  have hF : Fr [79, 84] dt dt := Fr_refl
  have r1 : 0 ≤ dt 79 15 ∧ dt 79 15 ≤ 500 := InvC_get hI 79 15 rfl rfl
  have r2 : 0 ≤ dt 79 11 ∧ dt 79 11 ≤ 510 := InvC_get hI 79 11 rfl rfl
  have r3 : 0 ≤ dt 79 10 ∧ dt 79 10 ≤ 24 := InvC_get hI 79 10 rfl rfl
  have cr0 := CUR_R hc (.inr rfl)
  have cb0 := CUR_b hc
  have cv0 := CUR_v hc
  have ck0 := KZ_lt (i := i) hz
  have c10 := hc.1
  refine go_toq PM166 (k := 1) (pc' := 1) (L' := [some (.inr (.inr (some 79))), none, none]) (st' := [.inr (.inr (some 79))]) (w' := (SH, dt)) rfl ?_
  refine go_callq PM166 PM167 (Q' := _) rfl rfl rfl rfl (sp_X6_unit_g L xs sio (d + 0) dt hI b n t i (by first | exact hbb | (rw [show dt 85 = dt 85 from funext (hF 85 (by decide)), show dt 79 12 = dt 79 12 by omega]; exact hbb)) (by omega) hz ht hc hi hn5  (by first | exact True.intro | rfl | omega | trivial) (by first | exact True.intro | rfl | omega | trivial)) ?_
  rintro _ _ ⟨dt5, rfl, hI6, hF7, h4⟩
  refine ⟨rfl, ?_⟩
  have hF8 : Fr [79, 84] dt dt5 := Fr_tr hF hF7 (by decide)
  rcases h4 with ⟨rfl, h4⟩ | ⟨rfl, h4⟩
  · skip
    obtain ⟨h4_0, h4_1, h4_2, h4_3, h4_4⟩ := h4
    have fl9 := RSX_0 h4_0 rfl
    have fe10 : (gT (KF 1 b n) (VF b n)) i = (gU (KF 1 b n)) i := (rfl : (gT (KF 1 b n) (VF b n)) i = (gT (KF 1 b n) (VF b n)) i).trans ((show (gT (KF 1 b n) (VF b n)) i = gB ((gU (KF 1 b n)) i) (gP (KF 1 b n) (VF b n) 600) by rfl).trans (gB_no fl9.1))
    refine go_retq PM166 (k := 2) (r := some (.inl 0)) (w1 := (SH, dt5)) rfl ?_
    exact ⟨dt5, rfl, hI6, hF8, (Or.inl ⟨rfl, ⟨by exact RSX_f fe10 fl9 (by omega) (by omega), by first | exact True.intro | rfl | omega | trivial, by first | exact True.intro | rfl | omega | trivial, by first | exact True.intro | rfl | omega | trivial, by first | exact True.intro | rfl | omega | trivial⟩⟩)⟩
  · skip
    obtain ⟨h4_0, h4_1, h4_2, h4_3, h4_4, h4_5, h4_6, h4_7, h4_8, h4_9⟩ := h4
    obtain ⟨j11, ej12, hc13⟩ := RSX_1 h4_0 (by decide)
    have hp14 : (gT (KF 1 b n) (VF b n)) i = (gP (KF 1 b n) (VF b n) 600) j11 := (rfl : (gT (KF 1 b n) (VF b n)) i = (gT (KF 1 b n) (VF b n)) i).trans ((show (gT (KF 1 b n) (VF b n)) i = gB ((gU (KF 1 b n)) i) (gP (KF 1 b n) (VF b n) 600) by rfl).trans (by rw [ej12]; exact gB_0))
    have hi15 : j11 ≤ t := by have z := gU_M (K := (KF 1 b n)) (i := i) hz; rw [ej12] at z; have y := z rfl; simp only at y; omega
    clear cr0 cb0 cv0 ck0
    have cr16 := CUR_R hc13 (.inr rfl)
    have cb17 := CUR_b hc13
    have cv18 := CUR_v hc13
    have ck19 := KZ_lt (i := j11) hz
    have c120 := (hc13).1
    have ci21 := hi15
    refine go_toq PM166 (k := 1) (pc' := 9) (L' := [some (.inr (.inr (some 79))), none, none]) (st' := []) (w' := (SH, dt5)) rfl ?_
    have loop162 : ∀ (k_ : Nat) (dt149 : Nat → Nat → Int) (hI150 : InvC dt149) (hF151 : Fr [79, 84] dt dt149) (i152 : ∃ q : Nat, (gT (KF 1 b n) (VF b n)) i = (gP (KF 1 b n) (VF b n) 600) q ∧ CUR 1 b n dt149 q ∧ q ≤ t) (i153 : dt 79 15 + dt149 79 11 ≤ dt149 79 15 + dt 79 11) (i154 : dt 79 11 + 1 ≤ dt149 79 11) (i155 : dt149 79 15 ≤ 500) (i156 : dt149 79 2 = dt 79 2) (i157 : dt149 79 9 = dt 79 9) (i158 : dt149 79 10 = dt 79 10) (i159 : dt149 79 12 = dt 79 12) (i160 : dt149 79 17 = dt 79 17) (i161 : dt149 79 20 = dt 79 20), (502 - dt149 79 15).toNat < k_ → GO (am_XX L xs sio) (d + 8) 166 9 [some (.inr (.inr (some 79))), none, none] [] (SH, dt149) (fun r w2 => ∃ dt2 : Nat → Nat → Int, w2 = (SH, dt2) ∧ InvC dt2 ∧ Fr [79, 84] dt dt2 ∧ ((r = some (.inl 0) ∧ (RSX 1 b n i dt2 0 ((gT (KF 1 b n) (VF b n)) i)) ∧ (dt2 79 2 = dt 79 2) ∧ (dt2 79 9 = dt 79 9) ∧ (dt2 79 10 = dt 79 10) ∧ (dt2 79 12 = dt 79 12)) ∨ (r = some (.inl 1) ∧ (RSX 1 b n i dt2 1 ((gT (KF 1 b n) (VF b n)) i)) ∧ (dt 79 15 + dt2 79 11 ≤ dt2 79 15 + dt 79 11) ∧ (dt 79 11 + 1 ≤ dt2 79 11) ∧ (dt2 79 15 ≤ 500) ∧ (dt2 79 2 = dt 79 2) ∧ (dt2 79 9 = dt 79 9) ∧ (dt2 79 10 = dt 79 10) ∧ (dt2 79 12 = dt 79 12) ∧ (dt2 79 17 = dt 79 17) ∧ (dt2 79 20 = dt 79 20)))) := by
      intro k_
      induction k_ with
      | zero => intro dt149 hI150 hF151 i152 i153 i154 i155 i156 i157 i158 i159 i160 i161 hm; exact absurd hm (Nat.not_lt_zero _)
      | succ k_ ih_loop162 =>
        intro dt149 hI150 hF151 i152 i153 i154 i155 i156 i157 i158 i159 i160 i161 hm
        clear cr16 cb17 cv18 ck19
        obtain ⟨gq, hpq, hcq, hiq⟩ := i152
        have crq := CUR_R hcq (.inr rfl)
        have cbq := CUR_b hcq
        have cvq := CUR_v hcq
        have ckq := KZ_lt (i := gq) hz
        have c1q := hcq.1
        have r163 : (-2147483648) ≤ dt149 79 14 ∧ dt149 79 14 ≤ 2147483647 := InvC_get hI150 79 14 rfl rfl
        refine go_ifq PM166 (k := 3) (p1 := 29) (p2 := 19) (L' := [some (.inr (.inr (some 79))), none, none]) (st' := []) (w' := (SH, dt149)) rfl (c_eq (a := dt149 79 14) (b := 142) (by first | exact bnd r163 (by decide) (by decide) | exact ⟨by omega, by omega⟩) ⟨by decide, by decide⟩) (fun c164 => ?_) (fun c164 => ?_)
        · skip
          refine go_ifq PM166 (k := 3) (p1 := 43) (p2 := 39) (L' := [some (.inr (.inr (some 79))), none, none]) (st' := []) (w' := (SH, dt149)) rfl (c_ne (a := dt149 79 14) (b := 147) (by first | exact bnd r163 (by decide) (by decide) | exact ⟨by omega, by omega⟩) ⟨by decide, by decide⟩) (fun c165 => ?_) (fun c165 => ?_)
          · skip
            refine go_toq PM166 (k := 3) (pc' := 46) (L' := [some (.inr (.inr (some 79))), some (.inl 0), none]) (st' := [.inr (.inr (some 79))]) (w' := (SH, dt149)) rfl ?_
            refine go_callq PM166 PM159 (Q' := _) rfl rfl rfl rfl (sp_X6_next0_p1 L xs sio (d + 1) dt149 hI150   (by first | exact True.intro | rfl | omega | trivial) (by first | exact True.intro | rfl | omega | trivial)) ?_
            rintro _ _ ⟨dt167, rfl, hI168, hF169, h166⟩
            refine ⟨rfl, ?_⟩
            have hF170 : Fr [79, 84] dt dt167 := Fr_tr hF151 hF169 (by decide)
            rcases h166 with ⟨rfl, h166⟩
            obtain ⟨h166_0, h166_1, h166_2, h166_3, h166_4, h166_5, h166_6, h166_7, h166_8⟩ := h166
            have hq171 := h166_0
            rw [show dt149 85 = dt 85 from funext (hF151 85 (by decide)), show dt149 79 12 = dt 79 12 by omega, hbb, show (dt 79 12).toNat = n by omega] at hq171
            have hc172 : CUR 1 b n dt167 (gq + 1) := CUR_n hcq hq171
            have hi173 : gq + 1 ≤ t := by omega
            have av174 : dt149 79 15 + 1 ≤ dt149 79 13 := by omega
            have hp175 : (gT (KF 1 b n) (VF b n)) i = (fun i => gB (gU (KF 1 b n) i) (gP (KF 1 b n) (VF b n) 600)) (gq + 1) := hpq.trans (by show gP _ _ 600 gq = _; rw [gP_u hz (by omega) (by omega)]; first | (rw [if_pos (by omega)]; done) | (rw [if_pos (by omega)]; rfl))
            clear crq cbq cvq ckq
            have cr176 := CUR_R hc172 (.inr rfl)
            have cb177 := CUR_b hc172
            have cv178 := CUR_v hc172
            have ck179 := KZ_lt (i := (gq + 1)) hz
            have c1180 := (hc172).1
            have ci181 := hi173
            refine go_toq PM166 (k := 3) (pc' := 82) (L' := [some (.inr (.inr (some 79))), some (.inl 0), none]) (st' := [.inr (.inr (some 79))]) (w' := (SH, dt167)) rfl ?_
            refine go_callq PM166 PM167 (Q' := _) rfl rfl rfl rfl (sp_X6_unit_g L xs sio (d + 0) dt167 hI168 b n t (gq + 1) (by first | exact hbb | (rw [show dt167 85 = dt 85 from funext (hF170 85 (by decide)), show dt167 79 12 = dt 79 12 by omega]; exact hbb)) (by omega) hz ht hc172 hi173 hn5  (by first | exact True.intro | rfl | omega | trivial) (by first | exact True.intro | rfl | omega | trivial)) ?_
            rintro _ _ ⟨dt183, rfl, hI184, hF185, h182⟩
            refine ⟨rfl, ?_⟩
            have hF186 : Fr [79, 84] dt dt183 := Fr_tr hF170 hF185 (by decide)
            rcases h182 with ⟨rfl, h182⟩ | ⟨rfl, h182⟩
            · skip
              obtain ⟨h182_0, h182_1, h182_2, h182_3, h182_4⟩ := h182
              have fl187 := RSX_0 h182_0 rfl
              have fe188 : (gT (KF 1 b n) (VF b n)) i = (gU (KF 1 b n)) (gq + 1) := hp175.trans ((show (fun i => gB (gU (KF 1 b n) i) (gP (KF 1 b n) (VF b n) 600)) (gq + 1) = gB ((gU (KF 1 b n)) (gq + 1)) (gP (KF 1 b n) (VF b n) 600) by rfl).trans (gB_no fl187.1))
              refine go_retq PM166 (k := 2) (r := some (.inl 0)) (w1 := (SH, dt183)) rfl ?_
              exact ⟨dt183, rfl, hI184, hF186, (Or.inl ⟨rfl, ⟨by exact RSX_f fe188 fl187 (by omega) (by omega), by first | exact True.intro | rfl | omega | trivial, by first | exact True.intro | rfl | omega | trivial, by first | exact True.intro | rfl | omega | trivial, by first | exact True.intro | rfl | omega | trivial⟩⟩)⟩
            · skip
              obtain ⟨h182_0, h182_1, h182_2, h182_3, h182_4, h182_5, h182_6, h182_7, h182_8, h182_9⟩ := h182
              obtain ⟨j189, ej190, hc191⟩ := RSX_1 h182_0 (by decide)
              have hp192 : (gT (KF 1 b n) (VF b n)) i = (gP (KF 1 b n) (VF b n) 600) j189 := hp175.trans ((show (fun i => gB (gU (KF 1 b n) i) (gP (KF 1 b n) (VF b n) 600)) (gq + 1) = gB ((gU (KF 1 b n)) (gq + 1)) (gP (KF 1 b n) (VF b n) 600) by rfl).trans (by rw [ej190]; exact gB_0))
              have hi193 : j189 ≤ t := by have z := gU_M (K := (KF 1 b n)) (i := (gq + 1)) hz; rw [ej190] at z; have y := z rfl; simp only at y; omega
              clear cr176 cb177 cv178 ck179
              have cr194 := CUR_R hc191 (.inr rfl)
              have cb195 := CUR_b hc191
              have cv196 := CUR_v hc191
              have ck197 := KZ_lt (i := j189) hz
              have c1198 := (hc191).1
              have ci199 := hi193
              refine go_toq PM166 (k := 4) (pc' := 94) (L' := [some (.inr (.inr (some 79))), some (.inl 0), none]) (st' := [.inl 0, .inl 9, .inr (.inr (some 79))]) (w' := (SH, dt183)) rfl ?_
              refine go_callq PM166 PM163 (Q' := _) rfl rfl rfl rfl (sp_X6_lay_g L xs sio (d + 7) dt183 hI184  9 ⟨by decide, by decide⟩ 0 ⟨by decide, by decide⟩ (by first | exact True.intro | rfl | omega | trivial)) ?_
              rintro _ _ ⟨dt201, rfl, hI202, hF203, h200⟩
              refine ⟨rfl, ?_⟩
              have hF204 : Fr [79, 84] dt dt201 := Fr_tr hF186 hF203 (by decide)
              rcases h200 with ⟨rfl, h200⟩
              obtain ⟨h200_0, h200_1, h200_2, h200_3, h200_4, h200_5, h200_6, h200_7, h200_8, h200_9, h200_10⟩ := h200
              have hc205 : CUR 1 b n dt201 j189 := CUR_sm hc191 (by omega) (by omega) (by omega) (by omega)
              refine go_toq PM166 (k := 1) (pc' := 9) (L' := [some (.inr (.inr (some 79))), some (.inl 0), none]) (st' := []) (w' := (SH, dt201)) rfl ?_
              exact GO.le (ih_loop162 dt201 hI202 hF204 (by exact ⟨_, hp192, hc205, hi193⟩) (by first | omega | exact ⟨_, hp192, hc205, hi193⟩) (by first | omega | exact ⟨_, hp192, hc205, hi193⟩) (by first | omega | exact ⟨_, hp192, hc205, hi193⟩) (by first | omega | exact ⟨_, hp192, hc205, hi193⟩) (by first | omega | exact ⟨_, hp192, hc205, hi193⟩) (by first | omega | exact ⟨_, hp192, hc205, hi193⟩) (by first | omega | exact ⟨_, hp192, hc205, hi193⟩) (by first | omega | exact ⟨_, hp192, hc205, hi193⟩) (by first | omega | exact ⟨_, hp192, hc205, hi193⟩) (by omega)) ⟨.inl rfl, .inr ⟨rfl, trivial⟩, .inl rfl, trivial⟩
          · exfalso; omega
        · skip
          refine go_ifq PM166 (k := 3) (p1 := 100) (p2 := 29) (L' := [some (.inr (.inr (some 79))), none, none]) (st' := []) (w' := (SH, dt149)) rfl (c_ne (a := dt149 79 14) (b := 147) (by first | exact bnd r163 (by decide) (by decide) | exact ⟨by omega, by omega⟩) ⟨by decide, by decide⟩) (fun c206 => ?_) (fun c206 => ?_)
          · skip
            refine go_retq PM166 (k := 1) (r := some (.inl 1)) (w1 := (SH, dt149)) rfl ?_
            exact ⟨dt149, rfl, hI150, hF151, (Or.inr ⟨rfl, ⟨by exact RSX_ok (hpq.trans (by show gP _ _ 600 gq = _; rw [gP_u hz (by omega) (by omega), if_neg (by omega), if_neg (by omega)])) hcq, by first | exact True.intro | rfl | omega | trivial, by first | exact True.intro | rfl | omega | trivial, by exact (InvC_get (by assumption) 79 15 rfl rfl).2, by first | exact True.intro | rfl | omega | trivial, by first | exact True.intro | rfl | omega | trivial, by first | exact True.intro | rfl | omega | trivial, by first | exact True.intro | rfl | omega | trivial, by first | exact True.intro | rfl | omega | trivial, by first | exact True.intro | rfl | omega | trivial⟩⟩)⟩
          · skip
            refine go_ifq PM166 (k := 3) (p1 := 43) (p2 := 39) (L' := [some (.inr (.inr (some 79))), none, none]) (st' := []) (w' := (SH, dt149)) rfl (c_ne (a := dt149 79 14) (b := 147) (by first | exact bnd r163 (by decide) (by decide) | exact ⟨by omega, by omega⟩) ⟨by decide, by decide⟩) (fun c207 => ?_) (fun c207 => ?_)
            · skip
              refine go_toq PM166 (k := 3) (pc' := 46) (L' := [some (.inr (.inr (some 79))), some (.inl 0), none]) (st' := [.inr (.inr (some 79))]) (w' := (SH, dt149)) rfl ?_
              refine go_callq PM166 PM159 (Q' := _) rfl rfl rfl rfl (sp_X6_next0_p1 L xs sio (d + 1) dt149 hI150   (by first | exact True.intro | rfl | omega | trivial) (by first | exact True.intro | rfl | omega | trivial)) ?_
              rintro _ _ ⟨dt209, rfl, hI210, hF211, h208⟩
              refine ⟨rfl, ?_⟩
              have hF212 : Fr [79, 84] dt dt209 := Fr_tr hF151 hF211 (by decide)
              rcases h208 with ⟨rfl, h208⟩
              obtain ⟨h208_0, h208_1, h208_2, h208_3, h208_4, h208_5, h208_6, h208_7, h208_8⟩ := h208
              have hq213 := h208_0
              rw [show dt149 85 = dt 85 from funext (hF151 85 (by decide)), show dt149 79 12 = dt 79 12 by omega, hbb, show (dt 79 12).toNat = n by omega] at hq213
              have hc214 : CUR 1 b n dt209 (gq + 1) := CUR_n hcq hq213
              have hi215 : gq + 1 ≤ t := by omega
              have av216 : dt149 79 15 + 1 ≤ dt149 79 13 := by omega
              have hp217 : (gT (KF 1 b n) (VF b n)) i = (fun i => gB (gU (KF 1 b n) i) (gP (KF 1 b n) (VF b n) 600)) (gq + 1) := hpq.trans (by show gP _ _ 600 gq = _; rw [gP_u hz (by omega) (by omega)]; first | (rw [if_pos (by omega)]; done) | (rw [if_pos (by omega)]; rfl))
              clear crq cbq cvq ckq
              have cr218 := CUR_R hc214 (.inr rfl)
              have cb219 := CUR_b hc214
              have cv220 := CUR_v hc214
              have ck221 := KZ_lt (i := (gq + 1)) hz
              have c1222 := (hc214).1
              have ci223 := hi215
              refine go_toq PM166 (k := 3) (pc' := 82) (L' := [some (.inr (.inr (some 79))), some (.inl 0), none]) (st' := [.inr (.inr (some 79))]) (w' := (SH, dt209)) rfl ?_
              refine go_callq PM166 PM167 (Q' := _) rfl rfl rfl rfl (sp_X6_unit_g L xs sio (d + 0) dt209 hI210 b n t (gq + 1) (by first | exact hbb | (rw [show dt209 85 = dt 85 from funext (hF212 85 (by decide)), show dt209 79 12 = dt 79 12 by omega]; exact hbb)) (by omega) hz ht hc214 hi215 hn5  (by first | exact True.intro | rfl | omega | trivial) (by first | exact True.intro | rfl | omega | trivial)) ?_
              rintro _ _ ⟨dt225, rfl, hI226, hF227, h224⟩
              refine ⟨rfl, ?_⟩
              have hF228 : Fr [79, 84] dt dt225 := Fr_tr hF212 hF227 (by decide)
              rcases h224 with ⟨rfl, h224⟩ | ⟨rfl, h224⟩
              · skip
                obtain ⟨h224_0, h224_1, h224_2, h224_3, h224_4⟩ := h224
                have fl229 := RSX_0 h224_0 rfl
                have fe230 : (gT (KF 1 b n) (VF b n)) i = (gU (KF 1 b n)) (gq + 1) := hp217.trans ((show (fun i => gB (gU (KF 1 b n) i) (gP (KF 1 b n) (VF b n) 600)) (gq + 1) = gB ((gU (KF 1 b n)) (gq + 1)) (gP (KF 1 b n) (VF b n) 600) by rfl).trans (gB_no fl229.1))
                refine go_retq PM166 (k := 2) (r := some (.inl 0)) (w1 := (SH, dt225)) rfl ?_
                exact ⟨dt225, rfl, hI226, hF228, (Or.inl ⟨rfl, ⟨by exact RSX_f fe230 fl229 (by omega) (by omega), by first | exact True.intro | rfl | omega | trivial, by first | exact True.intro | rfl | omega | trivial, by first | exact True.intro | rfl | omega | trivial, by first | exact True.intro | rfl | omega | trivial⟩⟩)⟩
              · skip
                obtain ⟨h224_0, h224_1, h224_2, h224_3, h224_4, h224_5, h224_6, h224_7, h224_8, h224_9⟩ := h224
                obtain ⟨j231, ej232, hc233⟩ := RSX_1 h224_0 (by decide)
                have hp234 : (gT (KF 1 b n) (VF b n)) i = (gP (KF 1 b n) (VF b n) 600) j231 := hp217.trans ((show (fun i => gB (gU (KF 1 b n) i) (gP (KF 1 b n) (VF b n) 600)) (gq + 1) = gB ((gU (KF 1 b n)) (gq + 1)) (gP (KF 1 b n) (VF b n) 600) by rfl).trans (by rw [ej232]; exact gB_0))
                have hi235 : j231 ≤ t := by have z := gU_M (K := (KF 1 b n)) (i := (gq + 1)) hz; rw [ej232] at z; have y := z rfl; simp only at y; omega
                clear cr218 cb219 cv220 ck221
                have cr236 := CUR_R hc233 (.inr rfl)
                have cb237 := CUR_b hc233
                have cv238 := CUR_v hc233
                have ck239 := KZ_lt (i := j231) hz
                have c1240 := (hc233).1
                have ci241 := hi235
                refine go_toq PM166 (k := 4) (pc' := 94) (L' := [some (.inr (.inr (some 79))), some (.inl 0), none]) (st' := [.inl 0, .inl 9, .inr (.inr (some 79))]) (w' := (SH, dt225)) rfl ?_
                refine go_callq PM166 PM163 (Q' := _) rfl rfl rfl rfl (sp_X6_lay_g L xs sio (d + 7) dt225 hI226  9 ⟨by decide, by decide⟩ 0 ⟨by decide, by decide⟩ (by first | exact True.intro | rfl | omega | trivial)) ?_
                rintro _ _ ⟨dt243, rfl, hI244, hF245, h242⟩
                refine ⟨rfl, ?_⟩
                have hF246 : Fr [79, 84] dt dt243 := Fr_tr hF228 hF245 (by decide)
                rcases h242 with ⟨rfl, h242⟩
                obtain ⟨h242_0, h242_1, h242_2, h242_3, h242_4, h242_5, h242_6, h242_7, h242_8, h242_9, h242_10⟩ := h242
                have hc247 : CUR 1 b n dt243 j231 := CUR_sm hc233 (by omega) (by omega) (by omega) (by omega)
                refine go_toq PM166 (k := 1) (pc' := 9) (L' := [some (.inr (.inr (some 79))), some (.inl 0), none]) (st' := []) (w' := (SH, dt243)) rfl ?_
                exact GO.le (ih_loop162 dt243 hI244 hF246 (by exact ⟨_, hp234, hc247, hi235⟩) (by first | omega | exact ⟨_, hp234, hc247, hi235⟩) (by first | omega | exact ⟨_, hp234, hc247, hi235⟩) (by first | omega | exact ⟨_, hp234, hc247, hi235⟩) (by first | omega | exact ⟨_, hp234, hc247, hi235⟩) (by first | omega | exact ⟨_, hp234, hc247, hi235⟩) (by first | omega | exact ⟨_, hp234, hc247, hi235⟩) (by first | omega | exact ⟨_, hp234, hc247, hi235⟩) (by first | omega | exact ⟨_, hp234, hc247, hi235⟩) (by first | omega | exact ⟨_, hp234, hc247, hi235⟩) (by omega)) ⟨.inl rfl, .inr ⟨rfl, trivial⟩, .inl rfl, trivial⟩
            · skip
              refine go_toq PM166 (k := 4) (pc' := 46) (L' := [some (.inr (.inr (some 79))), some (.inl 1), none]) (st' := [.inr (.inr (some 79))]) (w' := (SH, dt149)) rfl ?_
              refine go_callq PM166 PM159 (Q' := _) rfl rfl rfl rfl (sp_X6_next0_p1 L xs sio (d + 1) dt149 hI150   (by first | exact True.intro | rfl | omega | trivial) (by first | exact True.intro | rfl | omega | trivial)) ?_
              rintro _ _ ⟨dt249, rfl, hI250, hF251, h248⟩
              refine ⟨rfl, ?_⟩
              have hF252 : Fr [79, 84] dt dt249 := Fr_tr hF151 hF251 (by decide)
              rcases h248 with ⟨rfl, h248⟩
              obtain ⟨h248_0, h248_1, h248_2, h248_3, h248_4, h248_5, h248_6, h248_7, h248_8⟩ := h248
              have hq253 := h248_0
              rw [show dt149 85 = dt 85 from funext (hF151 85 (by decide)), show dt149 79 12 = dt 79 12 by omega, hbb, show (dt 79 12).toNat = n by omega] at hq253
              have hc254 : CUR 1 b n dt249 (gq + 1) := CUR_n hcq hq253
              have hi255 : gq + 1 ≤ t := by omega
              have av256 : dt149 79 15 + 1 ≤ dt149 79 13 := by omega
              have hp257 : (gT (KF 1 b n) (VF b n)) i = (fun i => gB (gD (KF 1 b n) (VF b n) i) (gP (KF 1 b n) (VF b n) 600)) (gq + 1) := hpq.trans (by show gP _ _ 600 gq = _; rw [gP_u hz (by omega) (by omega)]; first | (rw [if_neg (by omega), if_pos (by omega)]; done) | (rw [if_neg (by omega), if_pos (by omega)]; rfl))
              clear crq cbq cvq ckq
              have cr258 := CUR_R hc254 (.inr rfl)
              have cb259 := CUR_b hc254
              have cv260 := CUR_v hc254
              have ck261 := KZ_lt (i := (gq + 1)) hz
              have c1262 := (hc254).1
              have ci263 := hi255
              have r264 : 0 ≤ dt249 79 16 ∧ dt249 79 16 ≤ 9999 := InvC_get hI250 79 16 rfl rfl
              refine go_toq PM166 (k := 8) (pc' := 63) (L' := [some (.inr (.inr (some 79))), some (.inl 1), some (.inl (dt249 79 16))]) (st' := [.inl 9999, .inl 1, .inr (.inr (some 79))]) (w' := (SH, dt249)) rfl ?_
              refine go_callq PM166 PM162 (Q' := _) rfl rfl rfl rfl (sp_X6_number_g1d L xs sio (d + 0) dt249 hI250 b n t (gq + 1) (by first | exact hbb | (rw [show dt249 85 = dt 85 from funext (hF252 85 (by decide)), show dt249 79 12 = dt 79 12 by omega]; exact hbb)) (by omega) hz ht hc254 hi255 hn5  (by first | exact True.intro | rfl | omega | trivial)) ?_
              rintro _ _ ⟨dt266, rfl, hI267, hF268, h265⟩
              refine ⟨rfl, ?_⟩
              have hF269 : Fr [79, 84] dt dt266 := Fr_tr hF252 hF268 (by decide)
              rcases h265 with ⟨rfl, h265⟩ | ⟨rfl, h265⟩
              · skip
                obtain ⟨h265_0, h265_1, h265_2, h265_3, h265_4⟩ := h265
                have fl270 := RSX_0 h265_0 rfl
                have fe271 : (gT (KF 1 b n) (VF b n)) i = (gD (KF 1 b n) (VF b n)) (gq + 1) := hp257.trans ((show (fun i => gB (gD (KF 1 b n) (VF b n) i) (gP (KF 1 b n) (VF b n) 600)) (gq + 1) = gB ((gD (KF 1 b n) (VF b n)) (gq + 1)) (gP (KF 1 b n) (VF b n) 600) by rfl).trans (gB_no fl270.1))
                refine go_retq PM166 (k := 2) (r := some (.inl 0)) (w1 := (SH, dt266)) rfl ?_
                exact ⟨dt266, rfl, hI267, hF269, (Or.inl ⟨rfl, ⟨by exact RSX_f fe271 fl270 (by omega) (by omega), by first | exact True.intro | rfl | omega | trivial, by first | exact True.intro | rfl | omega | trivial, by first | exact True.intro | rfl | omega | trivial, by first | exact True.intro | rfl | omega | trivial⟩⟩)⟩
              · skip
                obtain ⟨h265_0, h265_1, h265_2, h265_3, h265_4, h265_5, h265_6, h265_7, h265_8, h265_9, h265_10⟩ := h265
                obtain ⟨j272, ej273, hc274⟩ := RSX_1 h265_0 (by decide)
                have hp275 : (gT (KF 1 b n) (VF b n)) i = (gP (KF 1 b n) (VF b n) 600) j272 := hp257.trans ((show (fun i => gB (gD (KF 1 b n) (VF b n) i) (gP (KF 1 b n) (VF b n) 600)) (gq + 1) = gB ((gD (KF 1 b n) (VF b n)) (gq + 1)) (gP (KF 1 b n) (VF b n) 600) by rfl).trans (by rw [ej273]; exact gB_0))
                have hi276 : j272 ≤ t := by have z := gD_M (K := (KF 1 b n)) (V := (VF b n)) (i := (gq + 1)) hz; rw [ej273] at z; have y := z rfl; simp only at y; omega
                clear cr258 cb259 cv260 ck261
                have cr277 := CUR_R hc274 (.inr rfl)
                have cb278 := CUR_b hc274
                have cv279 := CUR_v hc274
                have ck280 := KZ_lt (i := j272) hz
                have c1281 := (hc274).1
                have ci282 := hi276
                refine go_toq PM166 (k := 4) (pc' := 75) (L' := [some (.inr (.inr (some 79))), some (.inl 1), some (.inl (dt249 79 16))]) (st' := [.inl (dt249 79 16), .inl 10, .inr (.inr (some 79))]) (w' := (SH, dt266)) rfl ?_
                refine go_callq PM166 PM163 (Q' := _) rfl rfl rfl rfl (sp_X6_lay_g L xs sio (d + 7) dt266 hI267  10 ⟨by decide, by decide⟩ (dt249 79 16) (by first | exact bnd r264 (by decide) (by decide) | exact ⟨by omega, by omega⟩) (by first | exact True.intro | rfl | omega | trivial)) ?_
                rintro _ _ ⟨dt284, rfl, hI285, hF286, h283⟩
                refine ⟨rfl, ?_⟩
                have hF287 : Fr [79, 84] dt dt284 := Fr_tr hF269 hF286 (by decide)
                rcases h283 with ⟨rfl, h283⟩
                obtain ⟨h283_0, h283_1, h283_2, h283_3, h283_4, h283_5, h283_6, h283_7, h283_8, h283_9, h283_10⟩ := h283
                have hc288 : CUR 1 b n dt284 j272 := CUR_sm hc274 (by omega) (by omega) (by omega) (by omega)
                refine go_toq PM166 (k := 2) (pc' := 9) (L' := [some (.inr (.inr (some 79))), some (.inl 1), some (.inl (dt249 79 16))]) (st' := []) (w' := (SH, dt284)) rfl ?_
                exact GO.le (ih_loop162 dt284 hI285 hF287 (by exact ⟨_, hp275, hc288, hi276⟩) (by first | omega | exact ⟨_, hp275, hc288, hi276⟩) (by first | omega | exact ⟨_, hp275, hc288, hi276⟩) (by first | omega | exact ⟨_, hp275, hc288, hi276⟩) (by first | omega | exact ⟨_, hp275, hc288, hi276⟩) (by first | omega | exact ⟨_, hp275, hc288, hi276⟩) (by first | omega | exact ⟨_, hp275, hc288, hi276⟩) (by first | omega | exact ⟨_, hp275, hc288, hi276⟩) (by first | omega | exact ⟨_, hp275, hc288, hi276⟩) (by first | omega | exact ⟨_, hp275, hc288, hi276⟩) (by omega)) ⟨.inl rfl, .inr ⟨rfl, trivial⟩, .inr ⟨rfl, trivial⟩, trivial⟩
    exact GO.le (loop162 _ dt5 hI6 hF8 (by exact ⟨_, hp14, hc13, hi15⟩) (by first | omega | exact ⟨_, hp14, hc13, hi15⟩) (by first | omega | exact ⟨_, hp14, hc13, hi15⟩) (by first | omega | exact ⟨_, hp14, hc13, hi15⟩) (by first | omega | exact ⟨_, hp14, hc13, hi15⟩) (by first | omega | exact ⟨_, hp14, hc13, hi15⟩) (by first | omega | exact ⟨_, hp14, hc13, hi15⟩) (by first | omega | exact ⟨_, hp14, hc13, hi15⟩) (by first | omega | exact ⟨_, hp14, hc13, hi15⟩) (by first | omega | exact ⟨_, hp14, hc13, hi15⟩) (Nat.lt_succ_self _)) ⟨.inl rfl, .inl rfl, .inl rfl, trivial⟩
