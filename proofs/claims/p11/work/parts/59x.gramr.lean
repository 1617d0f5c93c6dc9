set_option maxRecDepth 20000 in
theorem sp_X6_bad_g (L : Nat) (xs : Nat → Int32) (sio : Option Nat) (d : Nat) (dt : Nat → Nat → Int) (hI : InvC dt)  (p1 : Int) (h_p1 : 1 ≤ p1 ∧ p1 ≤ 3)  : GO (am_XX L xs sio) (d) 160 0 [some (.inr (.inr (some 79))), some (.inl p1)] [] (SH, dt) (fun r w2 => ∃ dt2 : Nat → Nat → Int, w2 = (SH, dt2) ∧ InvC dt2 ∧ Fr [79] dt dt2 ∧ ((r = some (.inl 0) ∧ (dt2 79 17 = p1) ∧ (dt2 79 18 = dt 79 15) ∧ (dt2 79 2 = dt 79 2) ∧ (dt2 79 9 = dt 79 9) ∧ (dt2 79 10 = dt 79 10) ∧ (dt2 79 11 = dt 79 11) ∧ (dt2 79 12 = dt 79 12) ∧ (dt2 79 13 = dt 79 13) ∧ (dt2 79 14 = dt 79 14) ∧ (dt2 79 15 = dt 79 15) ∧ (dt2 79 16 = dt 79 16) ∧ (dt2 79 20 = dt 79 20)))) := by
  have hF : Fr [79] dt dt := Fr_refl
  have r1 : 0 ≤ dt 79 15 ∧ dt 79 15 ≤ 500 := InvC_get hI 79 15 rfl rfl
  have r2 : 0 ≤ dt 79 11 ∧ dt 79 11 ≤ 510 := InvC_get hI 79 11 rfl rfl
  have r3 : 0 ≤ dt 79 10 ∧ dt 79 10 ≤ 24 := InvC_get hI 79 10 rfl rfl
  refine go_toq PM160 (k := 2) (pc' := 2) (L' := [some (.inr (.inr (some 79))), some (.inl p1)]) (st' := [.inl p1, .inr (.inr (some 79))]) (w' := (SH, dt)) rfl ?_
  have hI4 : InvC (u2 dt 79 17 p1) := InvC_u2 hI (lo := -2147483648) (hi := 2147483647) rfl rfl rfl (by first | exact bnd1 h_p1 (by decide) | omega) (by first | exact bnd2 h_p1 (by decide) | omega)
  have hF5 : Fr [79] dt (u2 dt 79 17 p1) := Fr_u2 hF (by decide)
  have w6 : (u2 dt 79 17 p1) 79 2 = dt 79 2 := rfl
  have w7 : (u2 dt 79 17 p1) 79 9 = dt 79 9 := rfl
  have w8 : (u2 dt 79 17 p1) 79 10 = dt 79 10 := rfl
  have w9 : (u2 dt 79 17 p1) 79 11 = dt 79 11 := rfl
  have w10 : (u2 dt 79 17 p1) 79 12 = dt 79 12 := rfl
  have w11 : (u2 dt 79 17 p1) 79 13 = dt 79 13 := rfl
  have w12 : (u2 dt 79 17 p1) 79 14 = dt 79 14 := rfl
  have w13 : (u2 dt 79 17 p1) 79 15 = dt 79 15 := rfl
  have w14 : (u2 dt 79 17 p1) 79 16 = dt 79 16 := rfl
  have w15 : (u2 dt 79 17 p1) 79 17 = p1 := rfl
  have w16 : (u2 dt 79 17 p1) 79 18 = dt 79 18 := rfl
  have w17 : (u2 dt 79 17 p1) 79 20 = dt 79 20 := rfl
  refine go_smpq PM160 (L' := [some (.inr (.inr (some 79))), some (.inl p1)]) (st' := []) (w' := (SH, (u2 dt 79 17 p1))) rfl rfl (s_pf rfl rfl rfl rfl (by first | exact bnd h_p1 (by decide) (by decide) | exact ⟨by omega, by omega⟩)) ?_
  refine go_toq PM160 (k := 3) (pc' := 10) (L' := [some (.inr (.inr (some 79))), some (.inl p1)]) (st' := [.inl (dt 79 15), .inr (.inr (some 79))]) (w' := (SH, (u2 dt 79 17 p1))) rfl ?_
  have hI18 : InvC (u2 (u2 dt 79 17 p1) 79 18 (dt 79 15)) := InvC_u2 hI4 (lo := -2147483648) (hi := 2147483647) rfl rfl rfl (by first | exact bnd1 r1 (by decide) | omega) (by first | exact bnd2 r1 (by decide) | omega)
  have hF19 : Fr [79] dt (u2 (u2 dt 79 17 p1) 79 18 (dt 79 15)) := Fr_u2 hF5 (by decide)
  have w20 : (u2 (u2 dt 79 17 p1) 79 18 (dt 79 15)) 79 2 = (u2 dt 79 17 p1) 79 2 := rfl
  have w21 : (u2 (u2 dt 79 17 p1) 79 18 (dt 79 15)) 79 9 = (u2 dt 79 17 p1) 79 9 := rfl
  have w22 : (u2 (u2 dt 79 17 p1) 79 18 (dt 79 15)) 79 10 = (u2 dt 79 17 p1) 79 10 := rfl
  have w23 : (u2 (u2 dt 79 17 p1) 79 18 (dt 79 15)) 79 11 = (u2 dt 79 17 p1) 79 11 := rfl
  have w24 : (u2 (u2 dt 79 17 p1) 79 18 (dt 79 15)) 79 12 = (u2 dt 79 17 p1) 79 12 := rfl
  have w25 : (u2 (u2 dt 79 17 p1) 79 18 (dt 79 15)) 79 13 = (u2 dt 79 17 p1) 79 13 := rfl
  have w26 : (u2 (u2 dt 79 17 p1) 79 18 (dt 79 15)) 79 14 = (u2 dt 79 17 p1) 79 14 := rfl
  have w27 : (u2 (u2 dt 79 17 p1) 79 18 (dt 79 15)) 79 15 = (u2 dt 79 17 p1) 79 15 := rfl
  have w28 : (u2 (u2 dt 79 17 p1) 79 18 (dt 79 15)) 79 16 = (u2 dt 79 17 p1) 79 16 := rfl
  have w29 : (u2 (u2 dt 79 17 p1) 79 18 (dt 79 15)) 79 17 = (u2 dt 79 17 p1) 79 17 := rfl
  have w30 : (u2 (u2 dt 79 17 p1) 79 18 (dt 79 15)) 79 18 = dt 79 15 := rfl
  have w31 : (u2 (u2 dt 79 17 p1) 79 18 (dt 79 15)) 79 20 = (u2 dt 79 17 p1) 79 20 := rfl
  refine go_smpq PM160 (L' := [some (.inr (.inr (some 79))), some (.inl p1)]) (st' := []) (w' := (SH, (u2 (u2 dt 79 17 p1) 79 18 (dt 79 15)))) rfl rfl (s_pf rfl rfl rfl rfl (by first | exact bnd r1 (by decide) (by decide) | exact ⟨by omega, by omega⟩)) ?_
  refine go_retq PM160 (k := 1) (r := some (.inl 0)) (w1 := (SH, (u2 (u2 dt 79 17 p1) 79 18 (dt 79 15)))) rfl ?_
  exact ⟨(u2 (u2 dt 79 17 p1) 79 18 (dt 79 15)), rfl, hI18, hF19, ⟨rfl, ⟨by first | exact True.intro | rfl | omega | trivial, by first | exact True.intro | rfl | omega | trivial, by first | exact True.intro | rfl | omega | trivial, by first | exact True.intro | rfl | omega | trivial, by first | exact True.intro | rfl | omega | trivial, by first | exact True.intro | rfl | omega | trivial, by first | exact True.intro | rfl | omega | trivial, by first | exact True.intro | rfl | omega | trivial, by first | exact True.intro | rfl | omega | trivial, by first | exact True.intro | rfl | omega | trivial, by first | exact True.intro | rfl | omega | trivial, by first | exact True.intro | rfl | omega | trivial⟩⟩⟩
set_option maxRecDepth 20000 in
theorem sp_X6_need0_g0 (L : Nat) (xs : Nat → Int32) (sio : Option Nat) (d : Nat) (dt : Nat → Nat → Int) (hI : InvC dt) (b : Nat → Int) (n t i : Nat) (hbb : mB (dt 85) (dt 79 12) = b) (hnn : dt 79 12 = (n : Int)) (hz : KZ (KF 0 b n) t) (ht : t ≤ 500) (hc : CUR 0 b n dt i) (hi : i ≤ t) (hn5 : n ≤ 500) (p1 : Int) (h_p1 : 140 ≤ p1 ∧ p1 ≤ 162) (h_p0 : dt 79 9 = 0) : GO (am_XX L xs sio) (d + 7) 161 0 [some (.inr (.inr (some 79))), some (.inl p1)] [] (SH, dt) (fun r w2 => ∃ dt2 : Nat → Nat → Int, w2 = (SH, dt2) ∧ InvC dt2 ∧ Fr [79] dt dt2 ∧ ((r = some (.inl 0) ∧ (RSX 0 b n i dt2 0 ((gK (KF 0 b n) (p1 - 100)) i)) ∧ (dt2 79 2 = dt 79 2) ∧ (dt2 79 9 = dt 79 9) ∧ (dt2 79 10 = dt 79 10) ∧ (dt2 79 12 = dt 79 12)) ∨ (r = some (.inl 1) ∧ (RSX 0 b n i dt2 1 ((gK (KF 0 b n) (p1 - 100)) i)) ∧ (dt 79 15 + 1 ≤ dt2 79 15) ∧ (dt2 79 15 ≤ 500) ∧ (dt2 79 2 = dt 79 2) ∧ (dt2 79 9 = dt 79 9) ∧ (dt2 79 10 = dt 79 10) ∧ (dt2 79 11 = dt 79 11) ∧ (dt2 79 12 = dt 79 12) ∧ (dt2 79 17 = dt 79 17) ∧ (dt2 79 20 = dt 79 20)))) := by
  have hF : Fr [79] dt dt := Fr_refl
  have r1 : 0 ≤ dt 79 15 ∧ dt 79 15 ≤ 500 := InvC_get hI 79 15 rfl rfl
  have r2 : 0 ≤ dt 79 11 ∧ dt 79 11 ≤ 510 := InvC_get hI 79 11 rfl rfl
  have r3 : 0 ≤ dt 79 10 ∧ dt 79 10 ≤ 24 := InvC_get hI 79 10 rfl rfl
  have cr0 := CUR_R hc (.inl rfl)
  have cb0 := CUR_b hc
  have cv0 := CUR_v hc
  have ck0 := KZ_lt (i := i) hz
  have c10 := hc.1
  have r4 : (-2147483648) ≤ dt 79 14 ∧ dt 79 14 ≤ 2147483647 := InvC_get hI 79 14 rfl rfl
  refine go_ifq PM161 (k := 3) (p1 := 14) (p2 := 8) (L' := [some (.inr (.inr (some 79))), some (.inl p1)]) (st' := []) (w' := (SH, dt)) rfl (c_eq (a := dt 79 14) (b := p1) (by first | exact bnd r4 (by decide) (by decide) | exact ⟨by omega, by omega⟩) (by first | exact bnd h_p1 (by decide) (by decide) | exact ⟨by omega, by omega⟩)) (fun c5 => ?_) (fun c5 => ?_)
  · skip
    refine go_toq PM161 (k := 1) (pc' := 15) (L' := [some (.inr (.inr (some 79))), some (.inl p1)]) (st' := [.inr (.inr (some 79))]) (w' := (SH, dt)) rfl ?_
    refine go_callq PM161 PM159 (Q' := _) rfl rfl rfl rfl (sp_X6_next0_p0 L xs sio (d + 0) dt hI   (by first | exact True.intro | rfl | omega | trivial) (by first | exact True.intro | rfl | omega | trivial)) ?_
    rintro _ _ ⟨dt7, rfl, hI8, hF9, h6⟩
    refine ⟨rfl, ?_⟩
    have hF10 : Fr [79] dt dt7 := Fr_tr hF hF9 (by decide)
    rcases h6 with ⟨rfl, h6⟩
    obtain ⟨h6_0, h6_1, h6_2, h6_3, h6_4, h6_5, h6_6, h6_7, h6_8⟩ := h6
    have hq11 := h6_0
    rw [hbb, show (dt 79 12).toNat = n by omega] at hq11
    have hc12 : CUR 0 b n dt7 (i + 1) := CUR_n hc hq11
    have hi13 : i + 1 ≤ t := by omega
    have av14 : dt 79 15 + 1 ≤ dt 79 13 := by omega
    have cr15 := CUR_R hc12 (.inl rfl)
    have cb16 := CUR_b hc12
    have cv17 := CUR_v hc12
    have ck18 := KZ_lt (i := (i + 1)) hz
    have c119 := (hc12).1
    have ci20 := hi13
    refine go_retq PM161 (k := 1) (r := some (.inl 1)) (w1 := (SH, dt7)) rfl ?_
    exact ⟨dt7, rfl, hI8, hF10, (Or.inr ⟨rfl, ⟨by exact RSX_ok (by show gK _ _ _ = _; unfold gK; rw [if_pos (by omega)]) hc12, by first | exact True.intro | rfl | omega | trivial, by exact (InvC_get (by assumption) 79 15 rfl rfl).2, by first | exact True.intro | rfl | omega | trivial, by first | exact True.intro | rfl | omega | trivial, by first | exact True.intro | rfl | omega | trivial, by first | exact True.intro | rfl | omega | trivial, by first | exact True.intro | rfl | omega | trivial, by first | exact True.intro | rfl | omega | trivial, by first | exact True.intro | rfl | omega | trivial⟩⟩)⟩
  · skip
    refine go_toq PM161 (k := 2) (pc' := 10) (L' := [some (.inr (.inr (some 79))), some (.inl p1)]) (st' := [.inl 1, .inr (.inr (some 79))]) (w' := (SH, dt)) rfl ?_
    refine go_callq PM161 PM160 (Q' := _) rfl rfl rfl rfl (sp_X6_bad_g L xs sio (d + 6) dt hI  1 ⟨by decide, by decide⟩ ) ?_
    rintro _ _ ⟨dt22, rfl, hI23, hF24, h21⟩
    refine ⟨rfl, ?_⟩
    have hF25 : Fr [79] dt dt22 := Fr_tr hF hF24 (by decide)
    rcases h21 with ⟨rfl, h21⟩
    obtain ⟨h21_0, h21_1, h21_2, h21_3, h21_4, h21_5, h21_6, h21_7, h21_8, h21_9, h21_10, h21_11⟩ := h21
    have hc26 : CUR 0 b n dt22 i := CUR_sm hc (by omega) (by omega) (by omega) (by omega)
    refine go_retq PM161 (k := 0) (r := some (.inl 0)) (w1 := (SH, dt22)) rfl ?_
    exact ⟨dt22, rfl, hI23, hF25, (Or.inl ⟨rfl, ⟨by exact RSX_no (k := 1) (j := i) (by show gK _ _ _ = _; unfold gK; rw [if_neg (by omega)]) (by decide) (by omega) (by show _ = ((TP b n i : Nat) : Int); omega), by first | exact True.intro | rfl | omega | trivial, by first | exact True.intro | rfl | omega | trivial, by first | exact True.intro | rfl | omega | trivial, by first | exact True.intro | rfl | omega | trivial⟩⟩)⟩
set_option maxRecDepth 20000 in
theorem sp_X6_number_g0a (L : Nat) (xs : Nat → Int32) (sio : Option Nat) (d : Nat) (dt : Nat → Nat → Int) (hI : InvC dt) (b : Nat → Int) (n t i : Nat) (hbb : mB (dt 85) (dt 79 12) = b) (hnn : dt 79 12 = (n : Int)) (hz : KZ (KF 0 b n) t) (ht : t ≤ 500) (hc : CUR 0 b n dt i) (hi : i ≤ t) (hn5 : n ≤ 500) (p2 : Int) (h_p2 : 0 ≤ p2 ∧ p2 ≤ 9999) (h_p0 : dt 79 9 = 0) : GO (am_XX L xs sio) (d + 7) 162 0 [some (.inr (.inr (some 79))), some (.inl 0), some (.inl p2)] [] (SH, dt) (fun r w2 => ∃ dt2 : Nat → Nat → Int, w2 = (SH, dt2) ∧ InvC dt2 ∧ Fr [79] dt dt2 ∧ ((r = some (.inl 0) ∧ (RSX 0 b n i dt2 0 ((gA (KF 0 b n) (VF b n) p2) i)) ∧ (dt2 79 2 = dt 79 2) ∧ (dt2 79 9 = dt 79 9) ∧ (dt2 79 10 = dt 79 10) ∧ (dt2 79 12 = dt 79 12)) ∨ (r = some (.inl 1) ∧ (RSX 0 b n i dt2 1 ((gA (KF 0 b n) (VF b n) p2) i)) ∧ (dt 79 16 = VF b n i) ∧ (dt 79 15 + 1 ≤ dt2 79 15) ∧ (dt2 79 15 ≤ 500) ∧ (dt2 79 2 = dt 79 2) ∧ (dt2 79 9 = dt 79 9) ∧ (dt2 79 10 = dt 79 10) ∧ (dt2 79 11 = dt 79 11) ∧ (dt2 79 12 = dt 79 12) ∧ (dt2 79 17 = dt 79 17) ∧ (dt2 79 20 = dt 79 20)))) := by
  have hF : Fr [79] dt dt := Fr_refl
  have r1 : 0 ≤ dt 79 15 ∧ dt 79 15 ≤ 500 := InvC_get hI 79 15 rfl rfl
  have r2 : 0 ≤ dt 79 11 ∧ dt 79 11 ≤ 510 := InvC_get hI 79 11 rfl rfl
  have r3 : 0 ≤ dt 79 10 ∧ dt 79 10 ≤ 24 := InvC_get hI 79 10 rfl rfl
  have r4 : 0 ≤ dt 79 16 ∧ dt 79 16 ≤ 9999 := InvC_get hI 79 16 rfl rfl
  have cr0 := CUR_R hc (.inl rfl)
  have cb0 := CUR_b hc
  have cv0 := CUR_v hc
  have ck0 := KZ_lt (i := i) hz
  have c10 := hc.1
  have r5 : (-2147483648) ≤ dt 79 14 ∧ dt 79 14 ≤ 2147483647 := InvC_get hI 79 14 rfl rfl
  refine go_ifq PM162 (k := 3) (p1 := 14) (p2 := 8) (L' := [some (.inr (.inr (some 79))), some (.inl 0), some (.inl p2)]) (st' := []) (w' := (SH, dt)) rfl (c_eq (a := dt 79 14) (b := 2) (by first | exact bnd r5 (by decide) (by decide) | exact ⟨by omega, by omega⟩) ⟨by decide, by decide⟩) (fun c6 => ?_) (fun c6 => ?_)
  · skip
    refine go_toq PM162 (k := 4) (pc' := 20) (L' := [some (.inr (.inr (some 79))), some (.inl 0), some (.inl p2)]) (st' := [.inl p2, .inl 0, .inl (dt 79 16)]) (w' := (SH, dt)) rfl ?_
    refine go_callq PM162 PM146 (Q' := _) rfl rfl rfl rfl (sp_X6_isIn L xs sio (d + 6) dt hI  (dt 79 16) (by first | exact bnd r4 (by decide) (by decide) | exact ⟨by omega, by omega⟩) 0 ⟨by decide, by decide⟩ p2 (by first | exact h_p2 | exact bnd h_p2 (by decide) (by decide) | exact ⟨by omega, by omega⟩) ) ?_
    rintro _ _ ⟨rfl, h7⟩
    refine ⟨rfl, ?_⟩
    rcases h7 with ⟨rfl, h7⟩ | ⟨rfl, h7⟩
    · skip
      refine go_toq PM162 (k := 2) (pc' := 33) (L' := [some (.inr (.inr (some 79))), some (.inl 0), some (.inl p2)]) (st' := [.inr (.inr (some 79))]) (w' := (SH, dt)) rfl ?_
      refine go_callq PM162 PM159 (Q' := _) rfl rfl rfl rfl (sp_X6_next0_p0 L xs sio (d + 0) dt hI   (by first | exact True.intro | rfl | omega | trivial) (by first | exact True.intro | rfl | omega | trivial)) ?_
      rintro _ _ ⟨dt9, rfl, hI10, hF11, h8⟩
      refine ⟨rfl, ?_⟩
      have hF12 : Fr [79] dt dt9 := Fr_tr hF hF11 (by decide)
      rcases h8 with ⟨rfl, h8⟩
      obtain ⟨h8_0, h8_1, h8_2, h8_3, h8_4, h8_5, h8_6, h8_7, h8_8⟩ := h8
      have hq13 := h8_0
      rw [hbb, show (dt 79 12).toNat = n by omega] at hq13
      have hc14 : CUR 0 b n dt9 (i + 1) := CUR_n hc hq13
      have hi15 : i + 1 ≤ t := by omega
      have av16 : dt 79 15 + 1 ≤ dt 79 13 := by omega
      have cr17 := CUR_R hc14 (.inl rfl)
      have cb18 := CUR_b hc14
      have cv19 := CUR_v hc14
      have ck20 := KZ_lt (i := (i + 1)) hz
      have c121 := (hc14).1
      have ci22 := hi15
      refine go_retq PM162 (k := 1) (r := some (.inl 1)) (w1 := (SH, dt9)) rfl ?_
      exact ⟨dt9, rfl, hI10, hF12, (Or.inr ⟨rfl, ⟨by exact RSX_ok (by show gA _ _ _ _ = _; unfold gA; rw [if_pos (by omega), if_pos (by omega)]) hc14, by first | exact True.intro | rfl | omega | trivial, by first | exact True.intro | rfl | omega | trivial, by exact (InvC_get (by assumption) 79 15 rfl rfl).2, by first | exact True.intro | rfl | omega | trivial, by first | exact True.intro | rfl | omega | trivial, by first | exact True.intro | rfl | omega | trivial, by first | exact True.intro | rfl | omega | trivial, by first | exact True.intro | rfl | omega | trivial, by first | exact True.intro | rfl | omega | trivial, by first | exact True.intro | rfl | omega | trivial⟩⟩)⟩
    · skip
      refine go_toq PM162 (k := 3) (pc' := 28) (L' := [some (.inr (.inr (some 79))), some (.inl 0), some (.inl p2)]) (st' := [.inl 2, .inr (.inr (some 79))]) (w' := (SH, dt)) rfl ?_
      refine go_callq PM162 PM160 (Q' := _) rfl rfl rfl rfl (sp_X6_bad_g L xs sio (d + 6) dt hI  2 ⟨by decide, by decide⟩ ) ?_
      rintro _ _ ⟨dt24, rfl, hI25, hF26, h23⟩
      refine ⟨rfl, ?_⟩
      have hF27 : Fr [79] dt dt24 := Fr_tr hF hF26 (by decide)
      rcases h23 with ⟨rfl, h23⟩
      obtain ⟨h23_0, h23_1, h23_2, h23_3, h23_4, h23_5, h23_6, h23_7, h23_8, h23_9, h23_10, h23_11⟩ := h23
      have hc28 : CUR 0 b n dt24 i := CUR_sm hc (by omega) (by omega) (by omega) (by omega)
      refine go_retq PM162 (k := 0) (r := some (.inl 0)) (w1 := (SH, dt24)) rfl ?_
      exact ⟨dt24, rfl, hI25, hF27, (Or.inl ⟨rfl, ⟨by first | exact RSX_no (k := 1) (j := i) (by show gA _ _ _ _ = _; unfold gA; rw [if_neg (by omega)]) (by decide) (by omega) (by show _ = ((TP b n i : Nat) : Int); omega) | exact RSX_no (k := 2) (j := i) (by show gA _ _ _ _ = _; unfold gA; rw [if_pos (by omega), if_neg (by omega)]) (by decide) (by omega) (by show _ = ((TP b n i : Nat) : Int); omega), by first | exact True.intro | rfl | omega | trivial, by first | exact True.intro | rfl | omega | trivial, by first | exact True.intro | rfl | omega | trivial, by first | exact True.intro | rfl | omega | trivial⟩⟩)⟩
  · skip
    refine go_toq PM162 (k := 2) (pc' := 10) (L' := [some (.inr (.inr (some 79))), some (.inl 0), some (.inl p2)]) (st' := [.inl 1, .inr (.inr (some 79))]) (w' := (SH, dt)) rfl ?_
    refine go_callq PM162 PM160 (Q' := _) rfl rfl rfl rfl (sp_X6_bad_g L xs sio (d + 6) dt hI  1 ⟨by decide, by decide⟩ ) ?_
    rintro _ _ ⟨dt30, rfl, hI31, hF32, h29⟩
    refine ⟨rfl, ?_⟩
    have hF33 : Fr [79] dt dt30 := Fr_tr hF hF32 (by decide)
    rcases h29 with ⟨rfl, h29⟩
    obtain ⟨h29_0, h29_1, h29_2, h29_3, h29_4, h29_5, h29_6, h29_7, h29_8, h29_9, h29_10, h29_11⟩ := h29
    have hc34 : CUR 0 b n dt30 i := CUR_sm hc (by omega) (by omega) (by omega) (by omega)
    refine go_retq PM162 (k := 0) (r := some (.inl 0)) (w1 := (SH, dt30)) rfl ?_
    exact ⟨dt30, rfl, hI31, hF33, (Or.inl ⟨rfl, ⟨by first | exact RSX_no (k := 1) (j := i) (by show gA _ _ _ _ = _; unfold gA; rw [if_neg (by omega)]) (by decide) (by omega) (by show _ = ((TP b n i : Nat) : Int); omega) | exact RSX_no (k := 2) (j := i) (by show gA _ _ _ _ = _; unfold gA; rw [if_pos (by omega), if_neg (by omega)]) (by decide) (by omega) (by show _ = ((TP b n i : Nat) : Int); omega), by first | exact True.intro | rfl | omega | trivial, by first | exact True.intro | rfl | omega | trivial, by first | exact True.intro | rfl | omega | trivial, by first | exact True.intro | rfl | omega | trivial⟩⟩)⟩
set_option maxRecDepth 20000 in
theorem sp_X6_need0_g1 (L : Nat) (xs : Nat → Int32) (sio : Option Nat) (d : Nat) (dt : Nat → Nat → Int) (hI : InvC dt) (b : Nat → Int) (n t i : Nat) (hbb : mB (dt 85) (dt 79 12) = b) (hnn : dt 79 12 = (n : Int)) (hz : KZ (KF 1 b n) t) (ht : t ≤ 500) (hc : CUR 1 b n dt i) (hi : i ≤ t) (hn5 : n ≤ 500) (p1 : Int) (h_p1 : 140 ≤ p1 ∧ p1 ≤ 162) (h_p0 : dt 79 9 = 1) : GO (am_XX L xs sio) (d + 7) 161 0 [some (.inr (.inr (some 79))), some (.inl p1)] [] (SH, dt) (fun r w2 => ∃ dt2 : Nat → Nat → Int, w2 = (SH, dt2) ∧ InvC dt2 ∧ Fr [79] dt dt2 ∧ ((r = some (.inl 0) ∧ (RSX 1 b n i dt2 0 ((gK (KF 1 b n) (p1 - 100)) i)) ∧ (dt2 79 2 = dt 79 2) ∧ (dt2 79 9 = dt 79 9) ∧ (dt2 79 10 = dt 79 10) ∧ (dt2 79 12 = dt 79 12)) ∨ (r = some (.inl 1) ∧ (RSX 1 b n i dt2 1 ((gK (KF 1 b n) (p1 - 100)) i)) ∧ (dt 79 15 + 1 ≤ dt2 79 15) ∧ (dt2 79 15 ≤ 500) ∧ (dt2 79 2 = dt 79 2) ∧ (dt2 79 9 = dt 79 9) ∧ (dt2 79 10 = dt 79 10) ∧ (dt2 79 11 = dt 79 11) ∧ (dt2 79 12 = dt 79 12) ∧ (dt2 79 17 = dt 79 17) ∧ (dt2 79 20 = dt 79 20)))) := by
  have hF : Fr [79] dt dt := Fr_refl
  have r1 : 0 ≤ dt 79 15 ∧ dt 79 15 ≤ 500 := InvC_get hI 79 15 rfl rfl
  have r2 : 0 ≤ dt 79 11 ∧ dt 79 11 ≤ 510 := InvC_get hI 79 11 rfl rfl
  have r3 : 0 ≤ dt 79 10 ∧ dt 79 10 ≤ 24 := InvC_get hI 79 10 rfl rfl
  have cr0 := CUR_R hc (.inr rfl)
  have cb0 := CUR_b hc
  have cv0 := CUR_v hc
  have ck0 := KZ_lt (i := i) hz
  have c10 := hc.1
  have r4 : (-2147483648) ≤ dt 79 14 ∧ dt 79 14 ≤ 2147483647 := InvC_get hI 79 14 rfl rfl
  refine go_ifq PM161 (k := 3) (p1 := 14) (p2 := 8) (L' := [some (.inr (.inr (some 79))), some (.inl p1)]) (st' := []) (w' := (SH, dt)) rfl (c_eq (a := dt 79 14) (b := p1) (by first | exact bnd r4 (by decide) (by decide) | exact ⟨by omega, by omega⟩) (by first | exact bnd h_p1 (by decide) (by decide) | exact ⟨by omega, by omega⟩)) (fun c5 => ?_) (fun c5 => ?_)
  · skip
    refine go_toq PM161 (k := 1) (pc' := 15) (L' := [some (.inr (.inr (some 79))), some (.inl p1)]) (st' := [.inr (.inr (some 79))]) (w' := (SH, dt)) rfl ?_
    refine go_callq PM161 PM159 (Q' := _) rfl rfl rfl rfl (sp_X6_next0_p1 L xs sio (d + 0) dt hI   (by first | exact True.intro | rfl | omega | trivial) (by first | exact True.intro | rfl | omega | trivial)) ?_
    rintro _ _ ⟨dt7, rfl, hI8, hF9, h6⟩
    refine ⟨rfl, ?_⟩
    have hF10 : Fr [79] dt dt7 := Fr_tr hF hF9 (by decide)
    rcases h6 with ⟨rfl, h6⟩
    obtain ⟨h6_0, h6_1, h6_2, h6_3, h6_4, h6_5, h6_6, h6_7, h6_8⟩ := h6
    have hq11 := h6_0
    rw [hbb, show (dt 79 12).toNat = n by omega] at hq11
    have hc12 : CUR 1 b n dt7 (i + 1) := CUR_n hc hq11
    have hi13 : i + 1 ≤ t := by omega
    have av14 : dt 79 15 + 1 ≤ dt 79 13 := by omega
    have cr15 := CUR_R hc12 (.inr rfl)
    have cb16 := CUR_b hc12
    have cv17 := CUR_v hc12
    have ck18 := KZ_lt (i := (i + 1)) hz
    have c119 := (hc12).1
    have ci20 := hi13
    refine go_retq PM161 (k := 1) (r := some (.inl 1)) (w1 := (SH, dt7)) rfl ?_
    exact ⟨dt7, rfl, hI8, hF10, (Or.inr ⟨rfl, ⟨by exact RSX_ok (by show gK _ _ _ = _; unfold gK; rw [if_pos (by omega)]) hc12, by first | exact True.intro | rfl | omega | trivial, by exact (InvC_get (by assumption) 79 15 rfl rfl).2, by first | exact True.intro | rfl | omega | trivial, by first | exact True.intro | rfl | omega | trivial, by first | exact True.intro | rfl | omega | trivial, by first | exact True.intro | rfl | omega | trivial, by first | exact True.intro | rfl | omega | trivial, by first | exact True.intro | rfl | omega | trivial, by first | exact True.intro | rfl | omega | trivial⟩⟩)⟩
  · skip
    refine go_toq PM161 (k := 2) (pc' := 10) (L' := [some (.inr (.inr (some 79))), some (.inl p1)]) (st' := [.inl 1, .inr (.inr (some 79))]) (w' := (SH, dt)) rfl ?_
    refine go_callq PM161 PM160 (Q' := _) rfl rfl rfl rfl (sp_X6_bad_g L xs sio (d + 6) dt hI  1 ⟨by decide, by decide⟩ ) ?_
    rintro _ _ ⟨dt22, rfl, hI23, hF24, h21⟩
    refine ⟨rfl, ?_⟩
    have hF25 : Fr [79] dt dt22 := Fr_tr hF hF24 (by decide)
    rcases h21 with ⟨rfl, h21⟩
    obtain ⟨h21_0, h21_1, h21_2, h21_3, h21_4, h21_5, h21_6, h21_7, h21_8, h21_9, h21_10, h21_11⟩ := h21
    have hc26 : CUR 1 b n dt22 i := CUR_sm hc (by omega) (by omega) (by omega) (by omega)
    refine go_retq PM161 (k := 0) (r := some (.inl 0)) (w1 := (SH, dt22)) rfl ?_
    exact ⟨dt22, rfl, hI23, hF25, (Or.inl ⟨rfl, ⟨by exact RSX_no (k := 1) (j := i) (by show gK _ _ _ = _; unfold gK; rw [if_neg (by omega)]) (by decide) (by omega) (by show _ = ((TP b n i : Nat) : Int); omega), by first | exact True.intro | rfl | omega | trivial, by first | exact True.intro | rfl | omega | trivial, by first | exact True.intro | rfl | omega | trivial, by first | exact True.intro | rfl | omega | trivial⟩⟩)⟩
set_option maxRecDepth 20000 in
theorem sp_X6_number_g1a (L : Nat) (xs : Nat → Int32) (sio : Option Nat) (d : Nat) (dt : Nat → Nat → Int) (hI : InvC dt) (b : Nat → Int) (n t i : Nat) (hbb : mB (dt 85) (dt 79 12) = b) (hnn : dt 79 12 = (n : Int)) (hz : KZ (KF 1 b n) t) (ht : t ≤ 500) (hc : CUR 1 b n dt i) (hi : i ≤ t) (hn5 : n ≤ 500) (p2 : Int) (h_p2 : 0 ≤ p2 ∧ p2 ≤ 9999) (h_p0 : dt 79 9 = 1) : GO (am_XX L xs sio) (d + 7) 162 0 [some (.inr (.inr (some 79))), some (.inl 0), some (.inl p2)] [] (SH, dt) (fun r w2 => ∃ dt2 : Nat → Nat → Int, w2 = (SH, dt2) ∧ InvC dt2 ∧ Fr [79] dt dt2 ∧ ((r = some (.inl 0) ∧ (RSX 1 b n i dt2 0 ((gA (KF 1 b n) (VF b n) p2) i)) ∧ (dt2 79 2 = dt 79 2) ∧ (dt2 79 9 = dt 79 9) ∧ (dt2 79 10 = dt 79 10) ∧ (dt2 79 12 = dt 79 12)) ∨ (r = some (.inl 1) ∧ (RSX 1 b n i dt2 1 ((gA (KF 1 b n) (VF b n) p2) i)) ∧ (dt 79 16 = VF b n i) ∧ (dt 79 15 + 1 ≤ dt2 79 15) ∧ (dt2 79 15 ≤ 500) ∧ (dt2 79 2 = dt 79 2) ∧ (dt2 79 9 = dt 79 9) ∧ (dt2 79 10 = dt 79 10) ∧ (dt2 79 11 = dt 79 11) ∧ (dt2 79 12 = dt 79 12) ∧ (dt2 79 17 = dt 79 17) ∧ (dt2 79 20 = dt 79 20)))) := by
  have hF : Fr [79] dt dt := Fr_refl
  have r1 : 0 ≤ dt 79 15 ∧ dt 79 15 ≤ 500 := InvC_get hI 79 15 rfl rfl
  have r2 : 0 ≤ dt 79 11 ∧ dt 79 11 ≤ 510 := InvC_get hI 79 11 rfl rfl
  have r3 : 0 ≤ dt 79 10 ∧ dt 79 10 ≤ 24 := InvC_get hI 79 10 rfl rfl
  have r4 : 0 ≤ dt 79 16 ∧ dt 79 16 ≤ 9999 := InvC_get hI 79 16 rfl rfl
  have cr0 := CUR_R hc (.inr rfl)
  have cb0 := CUR_b hc
  have cv0 := CUR_v hc
  have ck0 := KZ_lt (i := i) hz
  have c10 := hc.1
  have r5 : (-2147483648) ≤ dt 79 14 ∧ dt 79 14 ≤ 2147483647 := InvC_get hI 79 14 rfl rfl
  refine go_ifq PM162 (k := 3) (p1 := 14) (p2 := 8) (L' := [some (.inr (.inr (some 79))), some (.inl 0), some (.inl p2)]) (st' := []) (w' := (SH, dt)) rfl (c_eq (a := dt 79 14) (b := 2) (by first | exact bnd r5 (by decide) (by decide) | exact ⟨by omega, by omega⟩) ⟨by decide, by decide⟩) (fun c6 => ?_) (fun c6 => ?_)
  · skip
    refine go_toq PM162 (k := 4) (pc' := 20) (L' := [some (.inr (.inr (some 79))), some (.inl 0), some (.inl p2)]) (st' := [.inl p2, .inl 0, .inl (dt 79 16)]) (w' := (SH, dt)) rfl ?_
    refine go_callq PM162 PM146 (Q' := _) rfl rfl rfl rfl (sp_X6_isIn L xs sio (d + 6) dt hI  (dt 79 16) (by first | exact bnd r4 (by decide) (by decide) | exact ⟨by omega, by omega⟩) 0 ⟨by decide, by decide⟩ p2 (by first | exact h_p2 | exact bnd h_p2 (by decide) (by decide) | exact ⟨by omega, by omega⟩) ) ?_
    rintro _ _ ⟨rfl, h7⟩
    refine ⟨rfl, ?_⟩
    rcases h7 with ⟨rfl, h7⟩ | ⟨rfl, h7⟩
    · skip
      refine go_toq PM162 (k := 2) (pc' := 33) (L' := [some (.inr (.inr (some 79))), some (.inl 0), some (.inl p2)]) (st' := [.inr (.inr (some 79))]) (w' := (SH, dt)) rfl ?_
      refine go_callq PM162 PM159 (Q' := _) rfl rfl rfl rfl (sp_X6_next0_p1 L xs sio (d + 0) dt hI   (by first | exact True.intro | rfl | omega | trivial) (by first | exact True.intro | rfl | omega | trivial)) ?_
      rintro _ _ ⟨dt9, rfl, hI10, hF11, h8⟩
      refine ⟨rfl, ?_⟩
      have hF12 : Fr [79] dt dt9 := Fr_tr hF hF11 (by decide)
      rcases h8 with ⟨rfl, h8⟩
      obtain ⟨h8_0, h8_1, h8_2, h8_3, h8_4, h8_5, h8_6, h8_7, h8_8⟩ := h8
      have hq13 := h8_0
      rw [hbb, show (dt 79 12).toNat = n by omega] at hq13
      have hc14 : CUR 1 b n dt9 (i + 1) := CUR_n hc hq13
      have hi15 : i + 1 ≤ t := by omega
      have av16 : dt 79 15 + 1 ≤ dt 79 13 := by omega
      have cr17 := CUR_R hc14 (.inr rfl)
      have cb18 := CUR_b hc14
      have cv19 := CUR_v hc14
      have ck20 := KZ_lt (i := (i + 1)) hz
      have c121 := (hc14).1
      have ci22 := hi15
      refine go_retq PM162 (k := 1) (r := some (.inl 1)) (w1 := (SH, dt9)) rfl ?_
      exact ⟨dt9, rfl, hI10, hF12, (Or.inr ⟨rfl, ⟨by exact RSX_ok (by show gA _ _ _ _ = _; unfold gA; rw [if_pos (by omega), if_pos (by omega)]) hc14, by first | exact True.intro | rfl | omega | trivial, by first | exact True.intro | rfl | omega | trivial, by exact (InvC_get (by assumption) 79 15 rfl rfl).2, by first | exact True.intro | rfl | omega | trivial, by first | exact True.intro | rfl | omega | trivial, by first | exact True.intro | rfl | omega | trivial, by first | exact True.intro | rfl | omega | trivial, by first | exact True.intro | rfl | omega | trivial, by first | exact True.intro | rfl | omega | trivial, by first | exact True.intro | rfl | omega | trivial⟩⟩)⟩
    · skip
      refine go_toq PM162 (k := 3) (pc' := 28) (L' := [some (.inr (.inr (some 79))), some (.inl 0), some (.inl p2)]) (st' := [.inl 2, .inr (.inr (some 79))]) (w' := (SH, dt)) rfl ?_
      refine go_callq PM162 PM160 (Q' := _) rfl rfl rfl rfl (sp_X6_bad_g L xs sio (d + 6) dt hI  2 ⟨by decide, by decide⟩ ) ?_
      rintro _ _ ⟨dt24, rfl, hI25, hF26, h23⟩
      refine ⟨rfl, ?_⟩
      have hF27 : Fr [79] dt dt24 := Fr_tr hF hF26 (by decide)
      rcases h23 with ⟨rfl, h23⟩
      obtain ⟨h23_0, h23_1, h23_2, h23_3, h23_4, h23_5, h23_6, h23_7, h23_8, h23_9, h23_10, h23_11⟩ := h23
      have hc28 : CUR 1 b n dt24 i := CUR_sm hc (by omega) (by omega) (by omega) (by omega)
      refine go_retq PM162 (k := 0) (r := some (.inl 0)) (w1 := (SH, dt24)) rfl ?_
      exact ⟨dt24, rfl, hI25, hF27, (Or.inl ⟨rfl, ⟨by first | exact RSX_no (k := 1) (j := i) (by show gA _ _ _ _ = _; unfold gA; rw [if_neg (by omega)]) (by decide) (by omega) (by show _ = ((TP b n i : Nat) : Int); omega) | exact RSX_no (k := 2) (j := i) (by show gA _ _ _ _ = _; unfold gA; rw [if_pos (by omega), if_neg (by omega)]) (by decide) (by omega) (by show _ = ((TP b n i : Nat) : Int); omega), by first | exact True.intro | rfl | omega | trivial, by first | exact True.intro | rfl | omega | trivial, by first | exact True.intro | rfl | omega | trivial, by first | exact True.intro | rfl | omega | trivial⟩⟩)⟩
  · skip
    refine go_toq PM162 (k := 2) (pc' := 10) (L' := [some (.inr (.inr (some 79))), some (.inl 0), some (.inl p2)]) (st' := [.inl 1, .inr (.inr (some 79))]) (w' := (SH, dt)) rfl ?_
    refine go_callq PM162 PM160 (Q' := _) rfl rfl rfl rfl (sp_X6_bad_g L xs sio (d + 6) dt hI  1 ⟨by decide, by decide⟩ ) ?_
    rintro _ _ ⟨dt30, rfl, hI31, hF32, h29⟩
    refine ⟨rfl, ?_⟩
    have hF33 : Fr [79] dt dt30 := Fr_tr hF hF32 (by decide)
    rcases h29 with ⟨rfl, h29⟩
    obtain ⟨h29_0, h29_1, h29_2, h29_3, h29_4, h29_5, h29_6, h29_7, h29_8, h29_9, h29_10, h29_11⟩ := h29
    have hc34 : CUR 1 b n dt30 i := CUR_sm hc (by omega) (by omega) (by omega) (by omega)
    refine go_retq PM162 (k := 0) (r := some (.inl 0)) (w1 := (SH, dt30)) rfl ?_
    exact ⟨dt30, rfl, hI31, hF33, (Or.inl ⟨rfl, ⟨by first | exact RSX_no (k := 1) (j := i) (by show gA _ _ _ _ = _; unfold gA; rw [if_neg (by omega)]) (by decide) (by omega) (by show _ = ((TP b n i : Nat) : Int); omega) | exact RSX_no (k := 2) (j := i) (by show gA _ _ _ _ = _; unfold gA; rw [if_pos (by omega), if_neg (by omega)]) (by decide) (by omega) (by show _ = ((TP b n i : Nat) : Int); omega), by first | exact True.intro | rfl | omega | trivial, by first | exact True.intro | rfl | omega | trivial, by first | exact True.intro | rfl | omega | trivial, by first | exact True.intro | rfl | omega | trivial⟩⟩)⟩
set_option maxRecDepth 20000 in
theorem sp_X6_number_g1d (L : Nat) (xs : Nat → Int32) (sio : Option Nat) (d : Nat) (dt : Nat → Nat → Int) (hI : InvC dt) (b : Nat → Int) (n t i : Nat) (hbb : mB (dt 85) (dt 79 12) = b) (hnn : dt 79 12 = (n : Int)) (hz : KZ (KF 1 b n) t) (ht : t ≤ 500) (hc : CUR 1 b n dt i) (hi : i ≤ t) (hn5 : n ≤ 500)  (h_p0 : dt 79 9 = 1) : GO (am_XX L xs sio) (d + 7) 162 0 [some (.inr (.inr (some 79))), some (.inl 1), some (.inl 9999)] [] (SH, dt) (fun r w2 => ∃ dt2 : Nat → Nat → Int, w2 = (SH, dt2) ∧ InvC dt2 ∧ Fr [79] dt dt2 ∧ ((r = some (.inl 0) ∧ (RSX 1 b n i dt2 0 ((gD (KF 1 b n) (VF b n)) i)) ∧ (dt2 79 2 = dt 79 2) ∧ (dt2 79 9 = dt 79 9) ∧ (dt2 79 10 = dt 79 10) ∧ (dt2 79 12 = dt 79 12)) ∨ (r = some (.inl 1) ∧ (RSX 1 b n i dt2 1 ((gD (KF 1 b n) (VF b n)) i)) ∧ (dt 79 16 = VF b n i) ∧ (dt 79 15 + 1 ≤ dt2 79 15) ∧ (dt2 79 15 ≤ 500) ∧ (dt2 79 2 = dt 79 2) ∧ (dt2 79 9 = dt 79 9) ∧ (dt2 79 10 = dt 79 10) ∧ (dt2 79 11 = dt 79 11) ∧ (dt2 79 12 = dt 79 12) ∧ (dt2 79 17 = dt 79 17) ∧ (dt2 79 20 = dt 79 20)))) := by
  have hF : Fr [79] dt dt := Fr_refl
  have r1 : 0 ≤ dt 79 15 ∧ dt 79 15 ≤ 500 := InvC_get hI 79 15 rfl rfl
  have r2 : 0 ≤ dt 79 11 ∧ dt 79 11 ≤ 510 := InvC_get hI 79 11 rfl rfl
  have r3 : 0 ≤ dt 79 10 ∧ dt 79 10 ≤ 24 := InvC_get hI 79 10 rfl rfl
  have r4 : 0 ≤ dt 79 16 ∧ dt 79 16 ≤ 9999 := InvC_get hI 79 16 rfl rfl
  have cr0 := CUR_R hc (.inr rfl)
  have cb0 := CUR_b hc
  have cv0 := CUR_v hc
  have ck0 := KZ_lt (i := i) hz
  have c10 := hc.1
  have r5 : (-2147483648) ≤ dt 79 14 ∧ dt 79 14 ≤ 2147483647 := InvC_get hI 79 14 rfl rfl
  refine go_ifq PM162 (k := 3) (p1 := 14) (p2 := 8) (L' := [some (.inr (.inr (some 79))), some (.inl 1), some (.inl 9999)]) (st' := []) (w' := (SH, dt)) rfl (c_eq (a := dt 79 14) (b := 2) (by first | exact bnd r5 (by decide) (by decide) | exact ⟨by omega, by omega⟩) ⟨by decide, by decide⟩) (fun c6 => ?_) (fun c6 => ?_)
  · skip
    refine go_toq PM162 (k := 4) (pc' := 20) (L' := [some (.inr (.inr (some 79))), some (.inl 1), some (.inl 9999)]) (st' := [.inl 9999, .inl 1, .inl (dt 79 16)]) (w' := (SH, dt)) rfl ?_
    refine go_callq PM162 PM146 (Q' := _) rfl rfl rfl rfl (sp_X6_isIn L xs sio (d + 6) dt hI  (dt 79 16) (by first | exact bnd r4 (by decide) (by decide) | exact ⟨by omega, by omega⟩) 1 ⟨by decide, by decide⟩ 9999 ⟨by decide, by decide⟩ ) ?_
    rintro _ _ ⟨rfl, h7⟩
    refine ⟨rfl, ?_⟩
    rcases h7 with ⟨rfl, h7⟩ | ⟨rfl, h7⟩
    · skip
      refine go_toq PM162 (k := 2) (pc' := 33) (L' := [some (.inr (.inr (some 79))), some (.inl 1), some (.inl 9999)]) (st' := [.inr (.inr (some 79))]) (w' := (SH, dt)) rfl ?_
      refine go_callq PM162 PM159 (Q' := _) rfl rfl rfl rfl (sp_X6_next0_p1 L xs sio (d + 0) dt hI   (by first | exact True.intro | rfl | omega | trivial) (by first | exact True.intro | rfl | omega | trivial)) ?_
      rintro _ _ ⟨dt9, rfl, hI10, hF11, h8⟩
      refine ⟨rfl, ?_⟩
      have hF12 : Fr [79] dt dt9 := Fr_tr hF hF11 (by decide)
      rcases h8 with ⟨rfl, h8⟩
      obtain ⟨h8_0, h8_1, h8_2, h8_3, h8_4, h8_5, h8_6, h8_7, h8_8⟩ := h8
      have hq13 := h8_0
      rw [hbb, show (dt 79 12).toNat = n by omega] at hq13
      have hc14 : CUR 1 b n dt9 (i + 1) := CUR_n hc hq13
      have hi15 : i + 1 ≤ t := by omega
      have av16 : dt 79 15 + 1 ≤ dt 79 13 := by omega
      have cr17 := CUR_R hc14 (.inr rfl)
      have cb18 := CUR_b hc14
      have cv19 := CUR_v hc14
      have ck20 := KZ_lt (i := (i + 1)) hz
      have c121 := (hc14).1
      have ci22 := hi15
      refine go_retq PM162 (k := 1) (r := some (.inl 1)) (w1 := (SH, dt9)) rfl ?_
      exact ⟨dt9, rfl, hI10, hF12, (Or.inr ⟨rfl, ⟨by exact RSX_ok (by show gD _ _ _ = _; unfold gD; rw [if_pos (by omega), if_neg (by omega)]) hc14, by first | exact True.intro | rfl | omega | trivial, by first | exact True.intro | rfl | omega | trivial, by exact (InvC_get (by assumption) 79 15 rfl rfl).2, by first | exact True.intro | rfl | omega | trivial, by first | exact True.intro | rfl | omega | trivial, by first | exact True.intro | rfl | omega | trivial, by first | exact True.intro | rfl | omega | trivial, by first | exact True.intro | rfl | omega | trivial, by first | exact True.intro | rfl | omega | trivial, by first | exact True.intro | rfl | omega | trivial⟩⟩)⟩
    · skip
      refine go_toq PM162 (k := 3) (pc' := 28) (L' := [some (.inr (.inr (some 79))), some (.inl 1), some (.inl 9999)]) (st' := [.inl 2, .inr (.inr (some 79))]) (w' := (SH, dt)) rfl ?_
      refine go_callq PM162 PM160 (Q' := _) rfl rfl rfl rfl (sp_X6_bad_g L xs sio (d + 6) dt hI  2 ⟨by decide, by decide⟩ ) ?_
      rintro _ _ ⟨dt24, rfl, hI25, hF26, h23⟩
      refine ⟨rfl, ?_⟩
      have hF27 : Fr [79] dt dt24 := Fr_tr hF hF26 (by decide)
      rcases h23 with ⟨rfl, h23⟩
      obtain ⟨h23_0, h23_1, h23_2, h23_3, h23_4, h23_5, h23_6, h23_7, h23_8, h23_9, h23_10, h23_11⟩ := h23
      have hc28 : CUR 1 b n dt24 i := CUR_sm hc (by omega) (by omega) (by omega) (by omega)
      refine go_retq PM162 (k := 0) (r := some (.inl 0)) (w1 := (SH, dt24)) rfl ?_
      exact ⟨dt24, rfl, hI25, hF27, (Or.inl ⟨rfl, ⟨by first | exact RSX_no (k := 1) (j := i) (by show gD _ _ _ = _; unfold gD; rw [if_neg (by omega)]) (by decide) (by omega) (by show _ = ((TP b n i : Nat) : Int); omega) | exact RSX_no (k := 2) (j := i) (by show gD _ _ _ = _; unfold gD; rw [if_pos (by omega), if_pos (by omega)]) (by decide) (by omega) (by show _ = ((TP b n i : Nat) : Int); omega), by first | exact True.intro | rfl | omega | trivial, by first | exact True.intro | rfl | omega | trivial, by first | exact True.intro | rfl | omega | trivial, by first | exact True.intro | rfl | omega | trivial⟩⟩)⟩
  · skip
    refine go_toq PM162 (k := 2) (pc' := 10) (L' := [some (.inr (.inr (some 79))), some (.inl 1), some (.inl 9999)]) (st' := [.inl 1, .inr (.inr (some 79))]) (w' := (SH, dt)) rfl ?_
    refine go_callq PM162 PM160 (Q' := _) rfl rfl rfl rfl (sp_X6_bad_g L xs sio (d + 6) dt hI  1 ⟨by decide, by decide⟩ ) ?_
    rintro _ _ ⟨dt30, rfl, hI31, hF32, h29⟩
    refine ⟨rfl, ?_⟩
    have hF33 : Fr [79] dt dt30 := Fr_tr hF hF32 (by decide)
    rcases h29 with ⟨rfl, h29⟩
    obtain ⟨h29_0, h29_1, h29_2, h29_3, h29_4, h29_5, h29_6, h29_7, h29_8, h29_9, h29_10, h29_11⟩ := h29
    have hc34 : CUR 1 b n dt30 i := CUR_sm hc (by omega) (by omega) (by omega) (by omega)
    refine go_retq PM162 (k := 0) (r := some (.inl 0)) (w1 := (SH, dt30)) rfl ?_
    exact ⟨dt30, rfl, hI31, hF33, (Or.inl ⟨rfl, ⟨by first | exact RSX_no (k := 1) (j := i) (by show gD _ _ _ = _; unfold gD; rw [if_neg (by omega)]) (by decide) (by omega) (by show _ = ((TP b n i : Nat) : Int); omega) | exact RSX_no (k := 2) (j := i) (by show gD _ _ _ = _; unfold gD; rw [if_pos (by omega), if_pos (by omega)]) (by decide) (by omega) (by show _ = ((TP b n i : Nat) : Int); omega), by first | exact True.intro | rfl | omega | trivial, by first | exact True.intro | rfl | omega | trivial, by first | exact True.intro | rfl | omega | trivial, by first | exact True.intro | rfl | omega | trivial⟩⟩)⟩
