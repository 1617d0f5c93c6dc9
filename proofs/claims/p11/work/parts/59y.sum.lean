set_option maxHeartbeats 1500000 in
set_option maxRecDepth 20000 in
theorem sp_X6_sumUp_g (L : Nat) (xs : Nat → Int32) (sio : Option Nat) (d : Nat) (dt : Nat → Nat → Int) (hI : InvC dt) (b : Nat → Int) (n t i : Nat) (hbb : mB (dt 85) (dt 79 12) = b) (hnn : dt 79 12 = (n : Int)) (hz : KZ (KF 1 b n) t) (ht : t ≤ 500) (hc : CUR 1 b n dt i) (hi : i ≤ t) (hn5 : n ≤ 500)  (h_p0 : dt 79 9 = 1) (h_p1 : dt 79 11 ≤ dt 79 15) : GO (am_XX L xs sio) (d + 9) 165 0 [some (.inr (.inr (some 79))), none] [] (SH, dt) (fun r w2 => ∃ dt2 : Nat → Nat → Int, w2 = (SH, dt2) ∧ InvC dt2 ∧ Fr [79, 84] dt dt2 ∧ ((r = some (.inl 0) ∧ (RSX 1 b n i dt2 0 ((gE (KF 1 b n) (VF b n)) i)) ∧ (dt2 79 2 = dt 79 2) ∧ (dt2 79 9 = dt 79 9) ∧ (dt2 79 10 = dt 79 10) ∧ (dt2 79 12 = dt 79 12)) ∨ (r = some (.inl 1) ∧ (RSX 1 b n i dt2 1 ((gE (KF 1 b n) (VF b n)) i)) ∧ (dt 79 15 + dt2 79 11 ≤ dt2 79 15 + dt 79 11) ∧ (dt 79 11 + 1 ≤ dt2 79 11) ∧ (dt2 79 15 ≤ 500) ∧ (dt2 79 2 = dt 79 2) ∧ (dt2 79 9 = dt 79 9) ∧ (dt2 79 10 = dt 79 10) ∧ (dt2 79 12 = dt 79 12) ∧ (dt2 79 17 = dt 79 17) ∧ (dt2 79 20 = dt 79 20)))) := by
  have hF : Fr [79, 84] dt dt := Fr_refl
  have r1 : 0 ≤ dt 79 15 ∧ dt 79 15 ≤ 500 := InvC_get hI 79 15 rfl rfl
  have r2 : 0 ≤ dt 79 11 ∧ dt 79 11 ≤ 510 := InvC_get hI 79 11 rfl rfl
  have r3 : 0 ≤ dt 79 10 ∧ dt 79 10 ≤ 24 := InvC_get hI 79 10 rfl rfl
  have cr0 := CUR_R hc (.inr rfl)
  have cb0 := CUR_b hc
  have cv0 := CUR_v hc
  have ck0 := KZ_lt (i := i) hz
  have c10 := hc.1
  refine go_toq PM165 (k := 1) (pc' := 1) (L' := [some (.inr (.inr (some 79))), none]) (st' := [.inr (.inr (some 79))]) (w' := (SH, dt)) rfl ?_
  refine go_callq PM165 PM166 (Q' := _) rfl rfl rfl rfl (sp_X6_product_g L xs sio (d + 0) dt hI b n t i (by first | exact hbb | (rw [show dt 85 = dt 85 from funext (hF 85 (by decide)), show dt 79 12 = dt 79 12 by omega]; exact hbb)) (by omega) hz ht hc hi hn5  (by first | exact True.intro | rfl | omega | trivial) (by first | exact True.intro | rfl | omega | trivial)) ?_
  rintro _ _ ⟨dt5, rfl, hI6, hF7, h4⟩
  refine ⟨rfl, ?_⟩
  have hF8 : Fr [79, 84] dt dt5 := Fr_tr hF hF7 (by decide)
  rcases h4 with ⟨rfl, h4⟩ | ⟨rfl, h4⟩
  · skip
    obtain ⟨h4_0, h4_1, h4_2, h4_3, h4_4⟩ := h4
    have fl9 := RSX_0 h4_0 rfl
    have fe10 : (gE (KF 1 b n) (VF b n)) i = (gT (KF 1 b n) (VF b n)) i := (rfl : (gE (KF 1 b n) (VF b n)) i = (gE (KF 1 b n) (VF b n)) i).trans ((show (gE (KF 1 b n) (VF b n)) i = gB ((gT (KF 1 b n) (VF b n)) i) (gQ (KF 1 b n) (VF b n) 600) by exact gE_PQ hz (by omega)).trans (gB_no fl9.1))
    refine go_retq PM165 (k := 2) (r := some (.inl 0)) (w1 := (SH, dt5)) rfl ?_
    exact ⟨dt5, rfl, hI6, hF8, (Or.inl ⟨rfl, ⟨by exact RSX_f fe10 fl9 (by omega) (by omega), by first | exact True.intro | rfl | omega | trivial, by first | exact True.intro | rfl | omega | trivial, by first | exact True.intro | rfl | omega | trivial, by first | exact True.intro | rfl | omega | trivial⟩⟩)⟩
  · skip
    obtain ⟨h4_0, h4_1, h4_2, h4_3, h4_4, h4_5, h4_6, h4_7, h4_8, h4_9⟩ := h4
    obtain ⟨j11, ej12, hc13⟩ := RSX_1 h4_0 (by decide)
    have hp14 : (gE (KF 1 b n) (VF b n)) i = (gQ (KF 1 b n) (VF b n) 600) j11 := (rfl : (gE (KF 1 b n) (VF b n)) i = (gE (KF 1 b n) (VF b n)) i).trans ((show (gE (KF 1 b n) (VF b n)) i = gB ((gT (KF 1 b n) (VF b n)) i) (gQ (KF 1 b n) (VF b n) 600) by exact gE_PQ hz (by omega)).trans (by rw [ej12]; exact gB_0))
    have hi15 : j11 ≤ t := by have z := gT_M' (K := (KF 1 b n)) (V := (VF b n)) (i := i) hz; rw [ej12] at z; have y := z rfl; simp only at y; omega
    clear cr0 cb0 cv0 ck0
    have cr16 := CUR_R hc13 (.inr rfl)
    have cb17 := CUR_b hc13
    have cv18 := CUR_v hc13
    have ck19 := KZ_lt (i := j11) hz
    have c120 := (hc13).1
    have ci21 := hi15
    refine go_toq PM165 (k := 1) (pc' := 9) (L' := [some (.inr (.inr (some 79))), none]) (st' := []) (w' := (SH, dt5)) rfl ?_
    have loop161 : ∀ (k_ : Nat) (dt148 : Nat → Nat → Int) (hI149 : InvC dt148) (hF150 : Fr [79, 84] dt dt148) (i151 : ∃ q : Nat, (gE (KF 1 b n) (VF b n)) i = (gQ (KF 1 b n) (VF b n) 600) q ∧ CUR 1 b n dt148 q ∧ q ≤ t) (i152 : dt 79 15 + dt148 79 11 ≤ dt148 79 15 + dt 79 11) (i153 : dt 79 11 + 1 ≤ dt148 79 11) (i154 : dt148 79 15 ≤ 500) (i155 : dt148 79 2 = dt 79 2) (i156 : dt148 79 9 = dt 79 9) (i157 : dt148 79 10 = dt 79 10) (i158 : dt148 79 12 = dt 79 12) (i159 : dt148 79 17 = dt 79 17) (i160 : dt148 79 20 = dt 79 20), (502 - dt148 79 15).toNat < k_ → GO (am_XX L xs sio) (d + 9) 165 9 [some (.inr (.inr (some 79))), none] [] (SH, dt148) (fun r w2 => ∃ dt2 : Nat → Nat → Int, w2 = (SH, dt2) ∧ InvC dt2 ∧ Fr [79, 84] dt dt2 ∧ ((r = some (.inl 0) ∧ (RSX 1 b n i dt2 0 ((gE (KF 1 b n) (VF b n)) i)) ∧ (dt2 79 2 = dt 79 2) ∧ (dt2 79 9 = dt 79 9) ∧ (dt2 79 10 = dt 79 10) ∧ (dt2 79 12 = dt 79 12)) ∨ (r = some (.inl 1) ∧ (RSX 1 b n i dt2 1 ((gE (KF 1 b n) (VF b n)) i)) ∧ (dt 79 15 + dt2 79 11 ≤ dt2 79 15 + dt 79 11) ∧ (dt 79 11 + 1 ≤ dt2 79 11) ∧ (dt2 79 15 ≤ 500) ∧ (dt2 79 2 = dt 79 2) ∧ (dt2 79 9 = dt 79 9) ∧ (dt2 79 10 = dt 79 10) ∧ (dt2 79 12 = dt 79 12) ∧ (dt2 79 17 = dt 79 17) ∧ (dt2 79 20 = dt 79 20)))) := by
      intro k_
      induction k_ with
      | zero => intro dt148 hI149 hF150 i151 i152 i153 i154 i155 i156 i157 i158 i159 i160 hm; exact absurd hm (Nat.not_lt_zero _)
      | succ k_ ih_loop161 =>
        intro dt148 hI149 hF150 i151 i152 i153 i154 i155 i156 i157 i158 i159 i160 hm
        clear cr16 cb17 cv18 ck19
        obtain ⟨gq, hpq, hcq, hiq⟩ := i151
        have crq := CUR_R hcq (.inr rfl)
        have cbq := CUR_b hcq
        have cvq := CUR_v hcq
        have ckq := KZ_lt (i := gq) hz
        have c1q := hcq.1
        have r162 : (-2147483648) ≤ dt148 79 14 ∧ dt148 79 14 ≤ 2147483647 := InvC_get hI149 79 14 rfl rfl
        refine go_ifq PM165 (k := 3) (p1 := 29) (p2 := 19) (L' := [some (.inr (.inr (some 79))), none]) (st' := []) (w' := (SH, dt148)) rfl (c_eq (a := dt148 79 14) (b := 143) (by first | exact bnd r162 (by decide) (by decide) | exact ⟨by omega, by omega⟩) ⟨by decide, by decide⟩) (fun c163 => ?_) (fun c163 => ?_)
        · skip
          refine go_ifq PM165 (k := 3) (p1 := 44) (p2 := 39) (L' := [some (.inr (.inr (some 79))), none]) (st' := []) (w' := (SH, dt148)) rfl (c_ne (a := dt148 79 14) (b := 143) (by first | exact bnd r162 (by decide) (by decide) | exact ⟨by omega, by omega⟩) ⟨by decide, by decide⟩) (fun c164 => ?_) (fun c164 => ?_)
          · skip
            refine go_toq PM165 (k := 3) (pc' := 48) (L' := [some (.inr (.inr (some 79))), some (.inl 8)]) (st' := [.inr (.inr (some 79))]) (w' := (SH, dt148)) rfl ?_
            refine go_callq PM165 PM159 (Q' := _) rfl rfl rfl rfl (sp_X6_next0_p1 L xs sio (d + 2) dt148 hI149   (by first | exact True.intro | rfl | omega | trivial) (by first | exact True.intro | rfl | omega | trivial)) ?_
            rintro _ _ ⟨dt166, rfl, hI167, hF168, h165⟩
            refine ⟨rfl, ?_⟩
            have hF169 : Fr [79, 84] dt dt166 := Fr_tr hF150 hF168 (by decide)
            rcases h165 with ⟨rfl, h165⟩
            obtain ⟨h165_0, h165_1, h165_2, h165_3, h165_4, h165_5, h165_6, h165_7, h165_8⟩ := h165
            have hq170 := h165_0
            rw [show dt148 85 = dt 85 from funext (hF150 85 (by decide)), show dt148 79 12 = dt 79 12 by omega, hbb, show (dt 79 12).toNat = n by omega] at hq170
            have hc171 : CUR 1 b n dt166 (gq + 1) := CUR_n hcq hq170
            have hi172 : gq + 1 ≤ t := by omega
            have av173 : dt148 79 15 + 1 ≤ dt148 79 13 := by omega
            have hp174 : (gE (KF 1 b n) (VF b n)) i = (fun i => gB (gT (KF 1 b n) (VF b n) i) (gQ (KF 1 b n) (VF b n) 600)) (gq + 1) := hpq.trans (by show gQ _ _ 600 gq = _; rw [gQ_u hz (by omega) (by omega)]; first | (rw [if_pos (by omega)]; done) | (rw [if_pos (by omega)]; rfl))
            clear crq cbq cvq ckq
            have cr175 := CUR_R hc171 (.inr rfl)
            have cb176 := CUR_b hc171
            have cv177 := CUR_v hc171
            have ck178 := KZ_lt (i := (gq + 1)) hz
            have c1179 := (hc171).1
            have ci180 := hi172
            refine go_toq PM165 (k := 1) (pc' := 52) (L' := [some (.inr (.inr (some 79))), some (.inl 8)]) (st' := [.inr (.inr (some 79))]) (w' := (SH, dt166)) rfl ?_
            refine go_callq PM165 PM166 (Q' := _) rfl rfl rfl rfl (sp_X6_product_g L xs sio (d + 0) dt166 hI167 b n t (gq + 1) (by first | exact hbb | (rw [show dt166 85 = dt 85 from funext (hF169 85 (by decide)), show dt166 79 12 = dt 79 12 by omega]; exact hbb)) (by omega) hz ht hc171 hi172 hn5  (by first | exact True.intro | rfl | omega | trivial) (by first | exact True.intro | rfl | omega | trivial)) ?_
            rintro _ _ ⟨dt182, rfl, hI183, hF184, h181⟩
            refine ⟨rfl, ?_⟩
            have hF185 : Fr [79, 84] dt dt182 := Fr_tr hF169 hF184 (by decide)
            rcases h181 with ⟨rfl, h181⟩ | ⟨rfl, h181⟩
            · skip
              obtain ⟨h181_0, h181_1, h181_2, h181_3, h181_4⟩ := h181
              have fl186 := RSX_0 h181_0 rfl
              have fe187 : (gE (KF 1 b n) (VF b n)) i = (gT (KF 1 b n) (VF b n)) (gq + 1) := hp174.trans ((show (fun i => gB (gT (KF 1 b n) (VF b n) i) (gQ (KF 1 b n) (VF b n) 600)) (gq + 1) = gB ((gT (KF 1 b n) (VF b n)) (gq + 1)) (gQ (KF 1 b n) (VF b n) 600) by rfl).trans (gB_no fl186.1))
              refine go_retq PM165 (k := 2) (r := some (.inl 0)) (w1 := (SH, dt182)) rfl ?_
              exact ⟨dt182, rfl, hI183, hF185, (Or.inl ⟨rfl, ⟨by exact RSX_f fe187 fl186 (by omega) (by omega), by first | exact True.intro | rfl | omega | trivial, by first | exact True.intro | rfl | omega | trivial, by first | exact True.intro | rfl | omega | trivial, by first | exact True.intro | rfl | omega | trivial⟩⟩)⟩
            · skip
              obtain ⟨h181_0, h181_1, h181_2, h181_3, h181_4, h181_5, h181_6, h181_7, h181_8, h181_9⟩ := h181
              obtain ⟨j188, ej189, hc190⟩ := RSX_1 h181_0 (by decide)
              have hp191 : (gE (KF 1 b n) (VF b n)) i = (gQ (KF 1 b n) (VF b n) 600) j188 := hp174.trans ((show (fun i => gB (gT (KF 1 b n) (VF b n) i) (gQ (KF 1 b n) (VF b n) 600)) (gq + 1) = gB ((gT (KF 1 b n) (VF b n)) (gq + 1)) (gQ (KF 1 b n) (VF b n) 600) by rfl).trans (by rw [ej189]; exact gB_0))
              have hi192 : j188 ≤ t := by have z := gT_M' (K := (KF 1 b n)) (V := (VF b n)) (i := (gq + 1)) hz; rw [ej189] at z; have y := z rfl; simp only at y; omega
              clear cr175 cb176 cv177 ck178
              have cr193 := CUR_R hc190 (.inr rfl)
              have cb194 := CUR_b hc190
              have cv195 := CUR_v hc190
              have ck196 := KZ_lt (i := j188) hz
              have c1197 := (hc190).1
              have ci198 := hi192
              refine go_toq PM165 (k := 4) (pc' := 63) (L' := [some (.inr (.inr (some 79))), some (.inl 8)]) (st' := [.inl 0, .inl 8, .inr (.inr (some 79))]) (w' := (SH, dt182)) rfl ?_
              refine go_callq PM165 PM163 (Q' := _) rfl rfl rfl rfl (sp_X6_lay_g L xs sio (d + 8) dt182 hI183  8 ⟨by decide, by decide⟩ 0 ⟨by decide, by decide⟩ (by first | exact True.intro | rfl | omega | trivial)) ?_
              rintro _ _ ⟨dt200, rfl, hI201, hF202, h199⟩
              refine ⟨rfl, ?_⟩
              have hF203 : Fr [79, 84] dt dt200 := Fr_tr hF185 hF202 (by decide)
              rcases h199 with ⟨rfl, h199⟩
              obtain ⟨h199_0, h199_1, h199_2, h199_3, h199_4, h199_5, h199_6, h199_7, h199_8, h199_9, h199_10⟩ := h199
              have hc204 : CUR 1 b n dt200 j188 := CUR_sm hc190 (by omega) (by omega) (by omega) (by omega)
              refine go_toq PM165 (k := 1) (pc' := 9) (L' := [some (.inr (.inr (some 79))), some (.inl 8)]) (st' := []) (w' := (SH, dt200)) rfl ?_
              exact GO.le (ih_loop161 dt200 hI201 hF203 (by exact ⟨_, hp191, hc204, hi192⟩) (by first | omega | exact ⟨_, hp191, hc204, hi192⟩) (by first | omega | exact ⟨_, hp191, hc204, hi192⟩) (by first | omega | exact ⟨_, hp191, hc204, hi192⟩) (by first | omega | exact ⟨_, hp191, hc204, hi192⟩) (by first | omega | exact ⟨_, hp191, hc204, hi192⟩) (by first | omega | exact ⟨_, hp191, hc204, hi192⟩) (by first | omega | exact ⟨_, hp191, hc204, hi192⟩) (by first | omega | exact ⟨_, hp191, hc204, hi192⟩) (by first | omega | exact ⟨_, hp191, hc204, hi192⟩) (by omega)) ⟨.inl rfl, .inr ⟨rfl, trivial⟩, trivial⟩
          · skip
            refine go_toq PM165 (k := 4) (pc' := 48) (L' := [some (.inr (.inr (some 79))), some (.inl 7)]) (st' := [.inr (.inr (some 79))]) (w' := (SH, dt148)) rfl ?_
            refine go_callq PM165 PM159 (Q' := _) rfl rfl rfl rfl (sp_X6_next0_p1 L xs sio (d + 2) dt148 hI149   (by first | exact True.intro | rfl | omega | trivial) (by first | exact True.intro | rfl | omega | trivial)) ?_
            rintro _ _ ⟨dt206, rfl, hI207, hF208, h205⟩
            refine ⟨rfl, ?_⟩
            have hF209 : Fr [79, 84] dt dt206 := Fr_tr hF150 hF208 (by decide)
            rcases h205 with ⟨rfl, h205⟩
            obtain ⟨h205_0, h205_1, h205_2, h205_3, h205_4, h205_5, h205_6, h205_7, h205_8⟩ := h205
            have hq210 := h205_0
            rw [show dt148 85 = dt 85 from funext (hF150 85 (by decide)), show dt148 79 12 = dt 79 12 by omega, hbb, show (dt 79 12).toNat = n by omega] at hq210
            have hc211 : CUR 1 b n dt206 (gq + 1) := CUR_n hcq hq210
            have hi212 : gq + 1 ≤ t := by omega
            have av213 : dt148 79 15 + 1 ≤ dt148 79 13 := by omega
            have hp214 : (gE (KF 1 b n) (VF b n)) i = (fun i => gB (gT (KF 1 b n) (VF b n) i) (gQ (KF 1 b n) (VF b n) 600)) (gq + 1) := hpq.trans (by show gQ _ _ 600 gq = _; rw [gQ_u hz (by omega) (by omega)]; first | (rw [if_pos (by omega)]; done) | (rw [if_pos (by omega)]; rfl))
            clear crq cbq cvq ckq
            have cr215 := CUR_R hc211 (.inr rfl)
            have cb216 := CUR_b hc211
            have cv217 := CUR_v hc211
            have ck218 := KZ_lt (i := (gq + 1)) hz
            have c1219 := (hc211).1
            have ci220 := hi212
            refine go_toq PM165 (k := 1) (pc' := 52) (L' := [some (.inr (.inr (some 79))), some (.inl 7)]) (st' := [.inr (.inr (some 79))]) (w' := (SH, dt206)) rfl ?_
            refine go_callq PM165 PM166 (Q' := _) rfl rfl rfl rfl (sp_X6_product_g L xs sio (d + 0) dt206 hI207 b n t (gq + 1) (by first | exact hbb | (rw [show dt206 85 = dt 85 from funext (hF209 85 (by decide)), show dt206 79 12 = dt 79 12 by omega]; exact hbb)) (by omega) hz ht hc211 hi212 hn5  (by first | exact True.intro | rfl | omega | trivial) (by first | exact True.intro | rfl | omega | trivial)) ?_
            rintro _ _ ⟨dt222, rfl, hI223, hF224, h221⟩
            refine ⟨rfl, ?_⟩
            have hF225 : Fr [79, 84] dt dt222 := Fr_tr hF209 hF224 (by decide)
            rcases h221 with ⟨rfl, h221⟩ | ⟨rfl, h221⟩
            · skip
              obtain ⟨h221_0, h221_1, h221_2, h221_3, h221_4⟩ := h221
              have fl226 := RSX_0 h221_0 rfl
              have fe227 : (gE (KF 1 b n) (VF b n)) i = (gT (KF 1 b n) (VF b n)) (gq + 1) := hp214.trans ((show (fun i => gB (gT (KF 1 b n) (VF b n) i) (gQ (KF 1 b n) (VF b n) 600)) (gq + 1) = gB ((gT (KF 1 b n) (VF b n)) (gq + 1)) (gQ (KF 1 b n) (VF b n) 600) by rfl).trans (gB_no fl226.1))
              refine go_retq PM165 (k := 2) (r := some (.inl 0)) (w1 := (SH, dt222)) rfl ?_
              exact ⟨dt222, rfl, hI223, hF225, (Or.inl ⟨rfl, ⟨by exact RSX_f fe227 fl226 (by omega) (by omega), by first | exact True.intro | rfl | omega | trivial, by first | exact True.intro | rfl | omega | trivial, by first | exact True.intro | rfl | omega | trivial, by first | exact True.intro | rfl | omega | trivial⟩⟩)⟩
            · skip
              obtain ⟨h221_0, h221_1, h221_2, h221_3, h221_4, h221_5, h221_6, h221_7, h221_8, h221_9⟩ := h221
              obtain ⟨j228, ej229, hc230⟩ := RSX_1 h221_0 (by decide)
              have hp231 : (gE (KF 1 b n) (VF b n)) i = (gQ (KF 1 b n) (VF b n) 600) j228 := hp214.trans ((show (fun i => gB (gT (KF 1 b n) (VF b n) i) (gQ (KF 1 b n) (VF b n) 600)) (gq + 1) = gB ((gT (KF 1 b n) (VF b n)) (gq + 1)) (gQ (KF 1 b n) (VF b n) 600) by rfl).trans (by rw [ej229]; exact gB_0))
              have hi232 : j228 ≤ t := by have z := gT_M' (K := (KF 1 b n)) (V := (VF b n)) (i := (gq + 1)) hz; rw [ej229] at z; have y := z rfl; simp only at y; omega
              clear cr215 cb216 cv217 ck218
              have cr233 := CUR_R hc230 (.inr rfl)
              have cb234 := CUR_b hc230
              have cv235 := CUR_v hc230
              have ck236 := KZ_lt (i := j228) hz
              have c1237 := (hc230).1
              have ci238 := hi232
              refine go_toq PM165 (k := 4) (pc' := 63) (L' := [some (.inr (.inr (some 79))), some (.inl 7)]) (st' := [.inl 0, .inl 7, .inr (.inr (some 79))]) (w' := (SH, dt222)) rfl ?_
              refine go_callq PM165 PM163 (Q' := _) rfl rfl rfl rfl (sp_X6_lay_g L xs sio (d + 8) dt222 hI223  7 ⟨by decide, by decide⟩ 0 ⟨by decide, by decide⟩ (by first | exact True.intro | rfl | omega | trivial)) ?_
              rintro _ _ ⟨dt240, rfl, hI241, hF242, h239⟩
              refine ⟨rfl, ?_⟩
              have hF243 : Fr [79, 84] dt dt240 := Fr_tr hF225 hF242 (by decide)
              rcases h239 with ⟨rfl, h239⟩
              obtain ⟨h239_0, h239_1, h239_2, h239_3, h239_4, h239_5, h239_6, h239_7, h239_8, h239_9, h239_10⟩ := h239
              have hc244 : CUR 1 b n dt240 j228 := CUR_sm hc230 (by omega) (by omega) (by omega) (by omega)
              refine go_toq PM165 (k := 1) (pc' := 9) (L' := [some (.inr (.inr (some 79))), some (.inl 7)]) (st' := []) (w' := (SH, dt240)) rfl ?_
              exact GO.le (ih_loop161 dt240 hI241 hF243 (by exact ⟨_, hp231, hc244, hi232⟩) (by first | omega | exact ⟨_, hp231, hc244, hi232⟩) (by first | omega | exact ⟨_, hp231, hc244, hi232⟩) (by first | omega | exact ⟨_, hp231, hc244, hi232⟩) (by first | omega | exact ⟨_, hp231, hc244, hi232⟩) (by first | omega | exact ⟨_, hp231, hc244, hi232⟩) (by first | omega | exact ⟨_, hp231, hc244, hi232⟩) (by first | omega | exact ⟨_, hp231, hc244, hi232⟩) (by first | omega | exact ⟨_, hp231, hc244, hi232⟩) (by first | omega | exact ⟨_, hp231, hc244, hi232⟩) (by omega)) ⟨.inl rfl, .inr ⟨rfl, trivial⟩, trivial⟩
        · skip
          refine go_ifq PM165 (k := 3) (p1 := 69) (p2 := 29) (L' := [some (.inr (.inr (some 79))), none]) (st' := []) (w' := (SH, dt148)) rfl (c_ne (a := dt148 79 14) (b := 145) (by first | exact bnd r162 (by decide) (by decide) | exact ⟨by omega, by omega⟩) ⟨by decide, by decide⟩) (fun c245 => ?_) (fun c245 => ?_)
          · skip
            refine go_retq PM165 (k := 1) (r := some (.inl 1)) (w1 := (SH, dt148)) rfl ?_
            exact ⟨dt148, rfl, hI149, hF150, (Or.inr ⟨rfl, ⟨by exact RSX_ok (hpq.trans (by show gQ _ _ 600 gq = _; rw [gQ_u hz (by omega) (by omega), if_neg (by omega)])) hcq, by first | exact True.intro | rfl | omega | trivial, by first | exact True.intro | rfl | omega | trivial, by exact (InvC_get (by assumption) 79 15 rfl rfl).2, by first | exact True.intro | rfl | omega | trivial, by first | exact True.intro | rfl | omega | trivial, by first | exact True.intro | rfl | omega | trivial, by first | exact True.intro | rfl | omega | trivial, by first | exact True.intro | rfl | omega | trivial, by first | exact True.intro | rfl | omega | trivial⟩⟩)⟩
          · skip
            refine go_ifq PM165 (k := 3) (p1 := 44) (p2 := 39) (L' := [some (.inr (.inr (some 79))), none]) (st' := []) (w' := (SH, dt148)) rfl (c_ne (a := dt148 79 14) (b := 143) (by first | exact bnd r162 (by decide) (by decide) | exact ⟨by omega, by omega⟩) ⟨by decide, by decide⟩) (fun c246 => ?_) (fun c246 => ?_)
            · skip
              refine go_toq PM165 (k := 3) (pc' := 48) (L' := [some (.inr (.inr (some 79))), some (.inl 8)]) (st' := [.inr (.inr (some 79))]) (w' := (SH, dt148)) rfl ?_
              refine go_callq PM165 PM159 (Q' := _) rfl rfl rfl rfl (sp_X6_next0_p1 L xs sio (d + 2) dt148 hI149   (by first | exact True.intro | rfl | omega | trivial) (by first | exact True.intro | rfl | omega | trivial)) ?_
              rintro _ _ ⟨dt248, rfl, hI249, hF250, h247⟩
              refine ⟨rfl, ?_⟩
              have hF251 : Fr [79, 84] dt dt248 := Fr_tr hF150 hF250 (by decide)
              rcases h247 with ⟨rfl, h247⟩
              obtain ⟨h247_0, h247_1, h247_2, h247_3, h247_4, h247_5, h247_6, h247_7, h247_8⟩ := h247
              have hq252 := h247_0
              rw [show dt148 85 = dt 85 from funext (hF150 85 (by decide)), show dt148 79 12 = dt 79 12 by omega, hbb, show (dt 79 12).toNat = n by omega] at hq252
              have hc253 : CUR 1 b n dt248 (gq + 1) := CUR_n hcq hq252
              have hi254 : gq + 1 ≤ t := by omega
              have av255 : dt148 79 15 + 1 ≤ dt148 79 13 := by omega
              have hp256 : (gE (KF 1 b n) (VF b n)) i = (fun i => gB (gT (KF 1 b n) (VF b n) i) (gQ (KF 1 b n) (VF b n) 600)) (gq + 1) := hpq.trans (by show gQ _ _ 600 gq = _; rw [gQ_u hz (by omega) (by omega)]; first | (rw [if_pos (by omega)]; done) | (rw [if_pos (by omega)]; rfl))
              clear crq cbq cvq ckq
              have cr257 := CUR_R hc253 (.inr rfl)
              have cb258 := CUR_b hc253
              have cv259 := CUR_v hc253
              have ck260 := KZ_lt (i := (gq + 1)) hz
              have c1261 := (hc253).1
              have ci262 := hi254
              refine go_toq PM165 (k := 1) (pc' := 52) (L' := [some (.inr (.inr (some 79))), some (.inl 8)]) (st' := [.inr (.inr (some 79))]) (w' := (SH, dt248)) rfl ?_
              refine go_callq PM165 PM166 (Q' := _) rfl rfl rfl rfl (sp_X6_product_g L xs sio (d + 0) dt248 hI249 b n t (gq + 1) (by first | exact hbb | (rw [show dt248 85 = dt 85 from funext (hF251 85 (by decide)), show dt248 79 12 = dt 79 12 by omega]; exact hbb)) (by omega) hz ht hc253 hi254 hn5  (by first | exact True.intro | rfl | omega | trivial) (by first | exact True.intro | rfl | omega | trivial)) ?_
              rintro _ _ ⟨dt264, rfl, hI265, hF266, h263⟩
              refine ⟨rfl, ?_⟩
              have hF267 : Fr [79, 84] dt dt264 := Fr_tr hF251 hF266 (by decide)
              rcases h263 with ⟨rfl, h263⟩ | ⟨rfl, h263⟩
              · skip
                obtain ⟨h263_0, h263_1, h263_2, h263_3, h263_4⟩ := h263
                have fl268 := RSX_0 h263_0 rfl
                have fe269 : (gE (KF 1 b n) (VF b n)) i = (gT (KF 1 b n) (VF b n)) (gq + 1) := hp256.trans ((show (fun i => gB (gT (KF 1 b n) (VF b n) i) (gQ (KF 1 b n) (VF b n) 600)) (gq + 1) = gB ((gT (KF 1 b n) (VF b n)) (gq + 1)) (gQ (KF 1 b n) (VF b n) 600) by rfl).trans (gB_no fl268.1))
                refine go_retq PM165 (k := 2) (r := some (.inl 0)) (w1 := (SH, dt264)) rfl ?_
                exact ⟨dt264, rfl, hI265, hF267, (Or.inl ⟨rfl, ⟨by exact RSX_f fe269 fl268 (by omega) (by omega), by first | exact True.intro | rfl | omega | trivial, by first | exact True.intro | rfl | omega | trivial, by first | exact True.intro | rfl | omega | trivial, by first | exact True.intro | rfl | omega | trivial⟩⟩)⟩
              · skip
                obtain ⟨h263_0, h263_1, h263_2, h263_3, h263_4, h263_5, h263_6, h263_7, h263_8, h263_9⟩ := h263
                obtain ⟨j270, ej271, hc272⟩ := RSX_1 h263_0 (by decide)
                have hp273 : (gE (KF 1 b n) (VF b n)) i = (gQ (KF 1 b n) (VF b n) 600) j270 := hp256.trans ((show (fun i => gB (gT (KF 1 b n) (VF b n) i) (gQ (KF 1 b n) (VF b n) 600)) (gq + 1) = gB ((gT (KF 1 b n) (VF b n)) (gq + 1)) (gQ (KF 1 b n) (VF b n) 600) by rfl).trans (by rw [ej271]; exact gB_0))
                have hi274 : j270 ≤ t := by have z := gT_M' (K := (KF 1 b n)) (V := (VF b n)) (i := (gq + 1)) hz; rw [ej271] at z; have y := z rfl; simp only at y; omega
                clear cr257 cb258 cv259 ck260
                have cr275 := CUR_R hc272 (.inr rfl)
                have cb276 := CUR_b hc272
                have cv277 := CUR_v hc272
                have ck278 := KZ_lt (i := j270) hz
                have c1279 := (hc272).1
                have ci280 := hi274
                refine go_toq PM165 (k := 4) (pc' := 63) (L' := [some (.inr (.inr (some 79))), some (.inl 8)]) (st' := [.inl 0, .inl 8, .inr (.inr (some 79))]) (w' := (SH, dt264)) rfl ?_
                refine go_callq PM165 PM163 (Q' := _) rfl rfl rfl rfl (sp_X6_lay_g L xs sio (d + 8) dt264 hI265  8 ⟨by decide, by decide⟩ 0 ⟨by decide, by decide⟩ (by first | exact True.intro | rfl | omega | trivial)) ?_
                rintro _ _ ⟨dt282, rfl, hI283, hF284, h281⟩
                refine ⟨rfl, ?_⟩
                have hF285 : Fr [79, 84] dt dt282 := Fr_tr hF267 hF284 (by decide)
                rcases h281 with ⟨rfl, h281⟩
                obtain ⟨h281_0, h281_1, h281_2, h281_3, h281_4, h281_5, h281_6, h281_7, h281_8, h281_9, h281_10⟩ := h281
                have hc286 : CUR 1 b n dt282 j270 := CUR_sm hc272 (by omega) (by omega) (by omega) (by omega)
                refine go_toq PM165 (k := 1) (pc' := 9) (L' := [some (.inr (.inr (some 79))), some (.inl 8)]) (st' := []) (w' := (SH, dt282)) rfl ?_
                exact GO.le (ih_loop161 dt282 hI283 hF285 (by exact ⟨_, hp273, hc286, hi274⟩) (by first | omega | exact ⟨_, hp273, hc286, hi274⟩) (by first | omega | exact ⟨_, hp273, hc286, hi274⟩) (by first | omega | exact ⟨_, hp273, hc286, hi274⟩) (by first | omega | exact ⟨_, hp273, hc286, hi274⟩) (by first | omega | exact ⟨_, hp273, hc286, hi274⟩) (by first | omega | exact ⟨_, hp273, hc286, hi274⟩) (by first | omega | exact ⟨_, hp273, hc286, hi274⟩) (by first | omega | exact ⟨_, hp273, hc286, hi274⟩) (by first | omega | exact ⟨_, hp273, hc286, hi274⟩) (by omega)) ⟨.inl rfl, .inr ⟨rfl, trivial⟩, trivial⟩
            · exfalso; omega
    exact GO.le (loop161 _ dt5 hI6 hF8 (by exact ⟨_, hp14, hc13, hi15⟩) (by first | omega | exact ⟨_, hp14, hc13, hi15⟩) (by first | omega | exact ⟨_, hp14, hc13, hi15⟩) (by first | omega | exact ⟨_, hp14, hc13, hi15⟩) (by first | omega | exact ⟨_, hp14, hc13, hi15⟩) (by first | omega | exact ⟨_, hp14, hc13, hi15⟩) (by first | omega | exact ⟨_, hp14, hc13, hi15⟩) (by first | omega | exact ⟨_, hp14, hc13, hi15⟩) (by first | omega | exact ⟨_, hp14, hc13, hi15⟩) (by first | omega | exact ⟨_, hp14, hc13, hi15⟩) (Nat.lt_succ_self _)) ⟨.inl rfl, .inl rfl, trivial⟩
