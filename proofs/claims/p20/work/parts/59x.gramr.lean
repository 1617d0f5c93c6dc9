set_option maxRecDepth 20000 in
theorem sp_X6_bad_g (L : Nat) (xs : Nat → Int32) (sio : Option Nat) (d : Nat) (dt : Nat → Nat → Int) (hI : InvC dt)  (p1 : Int) (h_p1 : 1 ≤ p1 ∧ p1 ≤ 3)  : GO (am_XX L xs sio) (d) 160 0 [some (.inr (.inr (some 79))), some (.inl p1)] [] (SH, dt) (fun r w2 => ∃ dt2 : Nat → Nat → Int, w2 = (SH, dt2) ∧ InvC dt2 ∧ Fr [79] dt dt2 ∧ ((r = some (.inl 0) ∧ (dt2 79 17 = p1) ∧ (dt2 79 18 = dt 79 15) ∧ (dt2 79 2 = dt 79 2) ∧ (dt2 79 9 = dt 79 9) ∧ (dt2 79 10 = dt 79 10) ∧ (dt2 79 11 = dt 79 11) ∧ (dt2 79 12 = dt 79 12) ∧ (dt2 79 13 = dt 79 13) ∧ (dt2 79 14 = dt 79 14) ∧ (dt2 79 15 = dt 79 15) ∧ (dt2 79 16 = dt 79 16) ∧ (dt2 79 20 = dt 79 20)))) := by
  have hF : Fr [79] dt dt := Fr_refl
  have r1 : 0 ≤ dt 79 15 ∧ dt 79 15 ≤ 500 := InvC_get hI 79 15 rfl rfl
  have r2 : 0 ≤ dt 79 11 ∧ dt 79 11 ≤ 510 := InvC_get hI 79 11 rfl rfl
  have r3 : 0 ≤ dt 79 10 ∧ dt 79 10 ≤ 24 := InvC_get hI 79 10 rfl rfl
  refine go_toq PM160 (k := 2) (pc' := 2) (L' := [some (.inr (.inr (some 79))), some (.inl p1)]) (st' := [.inl p1, .inr (.inr (some 79))]) (w' := (SH, dt)) rfl ?_
  have hI4 : InvC (u2 dt 79 17 p1) := InvC_u2 hI (lo := -2147483648) (hi := 2147483647) rfl rfl rfl (by first | exact bnd1 h_p1 (by decide) | fail) (by first | exact bnd2 h_p1 (by decide) | fail)
  have hF5 : Fr [79] dt (u2 dt 79 17 p1) := Fr_u2 hF (by decide)
  have w6 : (u2 dt 79 17 p1) 79 2 = dt 79 2 := rfl
  have w7 : (u2 dt 79 17 p1) 79 9 = dt 79 9 := rfl
  have w8 : (u2 dt 79 17 p1) 79 10 = dt 79 10 := rfl
  have w9 : (u2 dt 79 17 p1) 79 11 = dt 79 11 := rfl
  have w10 : (u2 dt 79 17 p1) 79 12 = dt 79 12 := rfl
  have w11 : (u2 dt 79 17 p1) 79 13 = dt 79 13 := rfl
  have w12 : (u2 dt 79 17 p1) 79 14 = dt 79 14 := rfl
  have w13 : (u2 dt 79 17 p1) 79 15 = dt 79 15 := rfl
  have w14 : (u2 dt 79 17 p1) 79 16 = dt 79 16 := rfl
  have w15 : (u2 dt 79 17 p1) 79 17 = p1 := rfl
  have w16 : (u2 dt 79 17 p1) 79 18 = dt 79 18 := rfl
  have w17 : (u2 dt 79 17 p1) 79 20 = dt 79 20 := rfl
  refine go_smpq PM160 (L' := [some (.inr (.inr (some 79))), some (.inl p1)]) (st' := []) (w' := (SH, (u2 dt 79 17 p1))) rfl rfl (s_pf rfl rfl rfl rfl (by first | exact bnd h_p1 (by decide) (by decide) | exact ⟨by fail, by fail⟩)) ?_
  refine go_toq PM160 (k := 3) (pc' := 10) (L' := [some (.inr (.inr (some 79))), some (.inl p1)]) (st' := [.inl (dt 79 15), .inr (.inr (some 79))]) (w' := (SH, (u2 dt 79 17 p1))) rfl ?_
  have hI18 : InvC (u2 (u2 dt 79 17 p1) 79 18 (dt 79 15)) := InvC_u2 hI4 (lo := -2147483648) (hi := 2147483647) rfl rfl rfl (by first | exact bnd1 r1 (by decide) | fail) (by first | exact bnd2 r1 (by decide) | fail)
  have hF19 : Fr [79] dt (u2 (u2 dt 79 17 p1) 79 18 (dt 79 15)) := Fr_u2 hF5 (by decide)
  have w20 : (u2 (u2 dt 79 17 p1) 79 18 (dt 79 15)) 79 2 = (u2 dt 79 17 p1) 79 2 := rfl
  have w21 : (u2 (u2 dt 79 17 p1) 79 18 (dt 79 15)) 79 9 = (u2 dt 79 17 p1) 79 9 := rfl
  have w22 : (u2 (u2 dt 79 17 p1) 79 18 (dt 79 15)) 79 10 = (u2 dt 79 17 p1) 79 10 := rfl
  have w23 : (u2 (u2 dt 79 17 p1) 79 18 (dt 79 15)) 79 11 = (u2 dt 79 17 p1) 79 11 := rfl
  have w24 : (u2 (u2 dt 79 17 p1) 79 18 (dt 79 15)) 79 12 = (u2 dt 79 17 p1) 79 12 := rfl
  have w25 : (u2 (u2 dt 79 17 p1) 79 18 (dt 79 15)) 79 13 = (u2 dt 79 17 p1) 79 13 := rfl
  have w26 : (u2 (u2 dt 79 17 p1) 79 18 (dt 79 15)) 79 14 = (u2 dt 79 17 p1) 79 14 := rfl
  have w27 : (u2 (u2 dt 79 17 p1) 79 18 (dt 79 15)) 79 15 = (u2 dt 79 17 p1) 79 15 := rfl
  have w28 : (u2 (u2 dt 79 17 p1) 79 18 (dt 79 15)) 79 16 = (u2 dt 79 17 p1) 79 16 := rfl
  have w29 : (u2 (u2 dt 79 17 p1) 79 18 (dt 79 15)) 79 17 = (u2 dt 79 17 p1) 79 17 := rfl
  have w30 : (u2 (u2 dt 79 17 p1) 79 18 (dt 79 15)) 79 18 = dt 79 15 := rfl
  have w31 : (u2 (u2 dt 79 17 p1) 79 18 (dt 79 15)) 79 20 = (u2 dt 79 17 p1) 79 20 := rfl
  refine go_smpq PM160 (L' := [some (.inr (.inr (some 79))), some (.inl p1)]) (st' := []) (w' := (SH, (u2 (u2 dt 79 17 p1) 79 18 (dt 79 15)))) rfl rfl (s_pf rfl rfl rfl rfl (by first | exact bnd r1 (by decide) (by decide) | exact ⟨by fail, by fail⟩)) ?_
  refine go_retq PM160 (k := 1) (r := some (.inl 0)) (w1 := (SH, (u2 (u2 dt 79 17 p1) 79 18 (dt 79 15)))) rfl ?_
  exact ⟨(u2 (u2 dt 79 17 p1) 79 18 (dt 79 15)), rfl, hI18, hF19, ⟨rfl, ⟨by first | exact True.intro | with_reducible assumption | rfl | fail | trivial, by first | exact True.intro | with_reducible assumption | rfl | fail | trivial, by first | exact True.intro | with_reducible assumption | rfl | fail | trivial, by first | exact True.intro | with_reducible assumption | rfl | fail | trivial, by first | exact True.intro | with_reducible assumption | rfl | fail | trivial, by first | exact True.intro | with_reducible assumption | rfl | fail | trivial, by first | exact True.intro | with_reducible assumption | rfl | fail | trivial, by first | exact True.intro | with_reducible assumption | rfl | fail | trivial, by first | exact True.intro | with_reducible assumption | rfl | fail | trivial, by first | exact True.intro | with_reducible assumption | rfl | fail | trivial, by first | exact True.intro | with_reducible assumption | rfl | fail | trivial, by first | exact True.intro | with_reducible assumption | rfl | fail | trivial⟩⟩⟩
set_option maxRecDepth 20000 in
theorem sp_X6_need0_g0 (L : Nat) (xs : Nat → Int32) (sio : Option Nat) (d : Nat) (dt : Nat → Nat → Int) (hI : InvC dt) (b : Nat → Int) (n t i : Nat) (hbb : mB (dt 85) (dt 79 12) = b) (hnn : dt 79 12 = (n : Int)) (hz : KZ (KF 0 b n) t) (ht : t ≤ 500) (hc : CUR 0 b n dt i) (hi : i ≤ t) (hn5 : n ≤ 500) (p1 : Int) (h_p1 : 140 ≤ p1 ∧ p1 ≤ 162) (h_p0 : dt 79 9 = 0) : GO (am_XX L xs sio) (d + 7) 161 0 [some (.inr (.inr (some 79))), some (.inl p1)] [] (SH, dt) (fun r w2 => ∃ dt2 : Nat → Nat → Int, w2 = (SH, dt2) ∧ InvC dt2 ∧ Fr [79] dt dt2 ∧ ((r = some (.inl 0) ∧ (RSX 0 b n i dt2 0 ((gK (KF 0 b n) (p1 - 100)) i)) ∧ (dt2 79 2 = dt 79 2) ∧ (dt2 79 9 = dt 79 9) ∧ (dt2 79 10 = dt 79 10) ∧ (dt2 79 12 = dt 79 12)) ∨ (r = some (.inl 1) ∧ (RSX 0 b n i dt2 1 ((gK (KF 0 b n) (p1 - 100)) i)) ∧ (dt 79 15 + 1 ≤ dt2 79 15) ∧ (dt2 79 15 ≤ 500) ∧ (dt2 79 2 = dt 79 2) ∧ (dt2 79 9 = dt 79 9) ∧ (dt2 79 10 = dt 79 10) ∧ (dt2 79 11 = dt 79 11) ∧ (dt2 79 12 = dt 79 12) ∧ (dt2 79 17 = dt 79 17) ∧ (dt2 79 20 = dt 79 20)))) := by
  have hF : Fr [79] dt dt := Fr_refl
  have r1 : 0 ≤ dt 79 15 ∧ dt 79 15 ≤ 500 := InvC_get hI 79 15 rfl rfl
  have r2 : 0 ≤ dt 79 11 ∧ dt 79 11 ≤ 510 := InvC_get hI 79 11 rfl rfl
  have r3 : 0 ≤ dt 79 10 ∧ dt 79 10 ≤ 24 := InvC_get hI 79 10 rfl rfl
  have cr0 := hid (CUR_R hc (.inl rfl))
  have cd0 := CUR_d (hc)
  have cb0 := hid (CUR_b hc)
  have cv0 := hid (CUR_v hc)
  have ck0 := hid (KZ_lt (i := i) hz)
  have c10 := hc.1
  have r4 : (-2147483648) ≤ dt 79 14 ∧ dt 79 14 ≤ 2147483647 := InvC_get hI 79 14 rfl rfl
  have u1_ := hid (And.intro (unhid cr0) (And.intro (unhid cb0) (And.intro (unhid cv0) (unhid ck0))))
  refine go_ifq PM161 (k := 3) (p1 := 14) (p2 := 8) (L' := [some (.inr (.inr (some 79))), some (.inl p1)]) (st' := []) (w' := (SH, dt)) rfl (c_eq (a := dt 79 14) (b := p1) (by first | exact bnd r4 (by decide) (by decide) | exact ⟨by fail, by fail⟩) (by first | exact bnd h_p1 (by decide) (by decide) | exact ⟨by fail, by fail⟩)) (fun c5 => ?_) (fun c5 => ?_)
  · skip
    refine go_toq PM161 (k := 1) (pc' := 15) (L' := [some (.inr (.inr (some 79))), some (.inl p1)]) (st' := [.inr (.inr (some 79))]) (w' := (SH, dt)) rfl ?_
    refine go_callq PM161 PM159 (Q' := _) rfl rfl rfl rfl (sp_X6_next0_p0 L xs sio (d + 0) dt hI   (by first | exact True.intro | with_reducible assumption | exact unhid (by with_reducible assumption) | rfl | omega | trivial) (by first | exact True.intro | with_reducible assumption | exact unhid (by with_reducible assumption) | rfl | fail | trivial)) ?_
    rintro _ _ ⟨dt7, rfl, hI8, hF9, h6⟩
    refine ⟨rfl, ?_⟩
    have hF10 : Fr [79] dt dt7 := Fr_tr hF hF9 (by decide)
    rcases h6 with ⟨rfl, h6⟩
    obtain ⟨h6_0, h6_1, h6_2, h6_3, h6_4, h6_5, h6_6, h6_7, h6_8⟩ := h6
    have w11 : dt7 79 2 = dt 79 2 := h6_2
    have w12 : dt7 79 9 = dt 79 9 := h6_3
    have w13 : dt7 79 10 = dt 79 10 := h6_4
    have w14 : dt7 79 11 = dt 79 11 := h6_5
    have w15 : dt7 79 12 = dt 79 12 := h6_6
    have w16 : dt7 79 17 = dt 79 17 := h6_7
    have w17 : dt7 79 20 = dt 79 20 := h6_8
    have hq18 := h6_0
    rw [hbb, show (dt 79 12).toNat = n from (congrArg Int.toNat hnn).trans (Int.toNat_natCast n)] at hq18
    have hc19 : CUR 0 b n dt7 (i + 1) := CUR_n hc hq18
    have hi20 : i + 1 ≤ t := by (have z_ := unhid u1_; omega)
    have av21 : dt 79 15 + 1 ≤ dt 79 13 := by (have z_ := unhid u1_; omega)
    have cr22 := hid (CUR_R hc19 (.inl rfl))
    have cd23 := CUR_d (hc19)
    have cb23 := hid (CUR_b hc19)
    have cv24 := hid (CUR_v hc19)
    have ck25 := hid (KZ_lt (i := (i + 1)) hz)
    have c126 := (hc19).1
    have ci27 := hi20
    clear h6_2 h6_3 h6_4 h6_5 h6_6 h6_7 h6_8
    refine go_retq PM161 (k := 1) (r := some (.inl 1)) (w1 := (SH, dt7)) rfl ?_
    exact ⟨dt7, rfl, hI8, hF10, (Or.inr ⟨rfl, ⟨by exact RSX_ok (by clear cr22 cb23 cv24 ck25; show gK _ _ _ = _; unfold gK; rw [if_pos (by (have z_ := unhid cr0; omega))]) hc19, by first | exact True.intro | with_reducible assumption | exact unhid (by with_reducible assumption) | rfl | omega | trivial, by exact (InvC_get (by assumption) 79 15 rfl rfl).2, by first | exact True.intro | with_reducible assumption | exact unhid (by with_reducible assumption) | rfl | fail | trivial, by first | exact True.intro | with_reducible assumption | exact unhid (by with_reducible assumption) | rfl | fail | trivial, by first | exact True.intro | with_reducible assumption | exact unhid (by with_reducible assumption) | rfl | fail | trivial, by first | exact True.intro | with_reducible assumption | exact unhid (by with_reducible assumption) | rfl | fail | trivial, by first | exact True.intro | with_reducible assumption | exact unhid (by with_reducible assumption) | rfl | fail | trivial, by first | exact True.intro | with_reducible assumption | exact unhid (by with_reducible assumption) | rfl | fail | trivial, by first | exact True.intro | with_reducible assumption | exact unhid (by with_reducible assumption) | rfl | fail | trivial⟩⟩)⟩
  · skip
    replace c5 := hid c5
    refine go_toq PM161 (k := 2) (pc' := 10) (L' := [some (.inr (.inr (some 79))), some (.inl p1)]) (st' := [.inl 1, .inr (.inr (some 79))]) (w' := (SH, dt)) rfl ?_
    refine go_callq PM161 PM160 (Q' := _) rfl rfl rfl rfl (sp_X6_bad_g L xs sio (d + 6) dt hI  1 ⟨by decide, by decide⟩ ) ?_
    rintro _ _ ⟨dt29, rfl, hI30, hF31, h28⟩
    refine ⟨rfl, ?_⟩
    have hF32 : Fr [79] dt dt29 := Fr_tr hF hF31 (by decide)
    rcases h28 with ⟨rfl, h28⟩
    obtain ⟨h28_0, h28_1, h28_2, h28_3, h28_4, h28_5, h28_6, h28_7, h28_8, h28_9, h28_10, h28_11⟩ := h28
    have w33 : dt29 79 2 = dt 79 2 := h28_2
    have w34 : dt29 79 9 = dt 79 9 := h28_3
    have w35 : dt29 79 10 = dt 79 10 := h28_4
    have w36 : dt29 79 11 = dt 79 11 := h28_5
    have w37 : dt29 79 12 = dt 79 12 := h28_6
    have w38 : dt29 79 13 = dt 79 13 := h28_7
    have w39 : dt29 79 14 = dt 79 14 := h28_8
    have w40 : dt29 79 15 = dt 79 15 := h28_9
    have w41 : dt29 79 16 = dt 79 16 := h28_10
    have w42 : dt29 79 20 = dt 79 20 := h28_11
    have u4_ := hid (And.intro (unhid cr0) (And.intro (unhid cb0) (And.intro (unhid cv0) (And.intro (unhid ck0) (unhid c5)))))
    have hc43 : CUR 0 b n dt29 i := CUR_sm hc (by first | with_reducible assumption | exact unhid (by with_reducible assumption) | rfl | fail) (by first | with_reducible assumption | exact unhid (by with_reducible assumption) | rfl | fail) (by first | with_reducible assumption | exact unhid (by with_reducible assumption) | rfl | fail) (by first | with_reducible assumption | exact unhid (by with_reducible assumption) | rfl | fail)
    clear h28_2 h28_3 h28_4 h28_5 h28_6 h28_7 h28_8 h28_9 h28_10 h28_11
    refine go_retq PM161 (k := 0) (r := some (.inl 0)) (w1 := (SH, dt29)) rfl ?_
    exact ⟨dt29, rfl, hI30, hF32, (Or.inl ⟨rfl, ⟨by exact RSX_no (k := 1) (j := i) (by show gK _ _ _ = _; unfold gK; rw [if_neg (by (have z_ := unhid u4_; omega))]) (by decide) (by omega) (by show _ = ((TP b n i : Nat) : Int); omega), by first | exact True.intro | with_reducible assumption | exact unhid (by with_reducible assumption) | rfl | fail | trivial, by first | exact True.intro | with_reducible assumption | exact unhid (by with_reducible assumption) | rfl | fail | trivial, by first | exact True.intro | with_reducible assumption | exact unhid (by with_reducible assumption) | rfl | fail | trivial, by first | exact True.intro | with_reducible assumption | exact unhid (by with_reducible assumption) | rfl | fail | trivial⟩⟩)⟩
set_option maxRecDepth 20000 in
theorem sp_X6_number_g0a (L : Nat) (xs : Nat → Int32) (sio : Option Nat) (d : Nat) (dt : Nat → Nat → Int) (hI : InvC dt) (b : Nat → Int) (n t i : Nat) (hbb : mB (dt 85) (dt 79 12) = b) (hnn : dt 79 12 = (n : Int)) (hz : KZ (KF 0 b n) t) (ht : t ≤ 500) (hc : CUR 0 b n dt i) (hi : i ≤ t) (hn5 : n ≤ 500) (p2 : Int) (h_p2 : 0 ≤ p2 ∧ p2 ≤ 9999) (h_p0 : dt 79 9 = 0) : GO (am_XX L xs sio) (d + 7) 162 0 [some (.inr (.inr (some 79))), some (.inl 0), some (.inl p2)] [] (SH, dt) (fun r w2 => ∃ dt2 : Nat → Nat → Int, w2 = (SH, dt2) ∧ InvC dt2 ∧ Fr [79] dt dt2 ∧ ((r = some (.inl 0) ∧ (RSX 0 b n i dt2 0 ((gA (KF 0 b n) (VF b n) p2) i)) ∧ (dt2 79 2 = dt 79 2) ∧ (dt2 79 9 = dt 79 9) ∧ (dt2 79 10 = dt 79 10) ∧ (dt2 79 12 = dt 79 12)) ∨ (r = some (.inl 1) ∧ (RSX 0 b n i dt2 1 ((gA (KF 0 b n) (VF b n) p2) i)) ∧ (dt 79 16 = VF b n i) ∧ (dt 79 15 + 1 ≤ dt2 79 15) ∧ (dt2 79 15 ≤ 500) ∧ (dt2 79 2 = dt 79 2) ∧ (dt2 79 9 = dt 79 9) ∧ (dt2 79 10 = dt 79 10) ∧ (dt2 79 11 = dt 79 11) ∧ (dt2 79 12 = dt 79 12) ∧ (dt2 79 17 = dt 79 17) ∧ (dt2 79 20 = dt 79 20)))) := by
  have hF : Fr [79] dt dt := Fr_refl
  have r1 : 0 ≤ dt 79 15 ∧ dt 79 15 ≤ 500 := InvC_get hI 79 15 rfl rfl
  have r2 : 0 ≤ dt 79 11 ∧ dt 79 11 ≤ 510 := InvC_get hI 79 11 rfl rfl
  have r3 : 0 ≤ dt 79 10 ∧ dt 79 10 ≤ 24 := InvC_get hI 79 10 rfl rfl
  have r4 : 0 ≤ dt 79 16 ∧ dt 79 16 ≤ 9999 := InvC_get hI 79 16 rfl rfl
  have cr0 := hid (CUR_R hc (.inl rfl))
  have cd0 := CUR_d (hc)
  have cb0 := hid (CUR_b hc)
  have cv0 := hid (CUR_v hc)
  have ck0 := hid (KZ_lt (i := i) hz)
  have c10 := hc.1
  have r5 : (-2147483648) ≤ dt 79 14 ∧ dt 79 14 ≤ 2147483647 := InvC_get hI 79 14 rfl rfl
  have u5_ := hid (And.intro (unhid cr0) (And.intro (unhid cb0) (And.intro (unhid cv0) (unhid ck0))))
  refine go_ifq PM162 (k := 3) (p1 := 14) (p2 := 8) (L' := [some (.inr (.inr (some 79))), some (.inl 0), some (.inl p2)]) (st' := []) (w' := (SH, dt)) rfl (c_eq (a := dt 79 14) (b := 2) (by first | exact bnd r5 (by decide) (by decide) | exact ⟨by fail, by fail⟩) ⟨by decide, by decide⟩) (fun c6 => ?_) (fun c6 => ?_)
  · skip
    refine go_toq PM162 (k := 4) (pc' := 20) (L' := [some (.inr (.inr (some 79))), some (.inl 0), some (.inl p2)]) (st' := [.inl p2, .inl 0, .inl (dt 79 16)]) (w' := (SH, dt)) rfl ?_
    refine go_callq PM162 PM146 (Q' := _) rfl rfl rfl rfl (sp_X6_isIn L xs sio (d + 6) dt hI  (dt 79 16) (by first | exact bnd r4 (by decide) (by decide) | exact ⟨by fail, by fail⟩) 0 ⟨by decide, by decide⟩ p2 (by first | exact h_p2 | exact bnd h_p2 (by decide) (by decide) | exact ⟨by fail, by fail⟩) ) ?_
    rintro _ _ ⟨rfl, h7⟩
    refine ⟨rfl, ?_⟩
    rcases h7 with ⟨rfl, h7⟩ | ⟨rfl, h7⟩
    · skip
      refine go_toq PM162 (k := 2) (pc' := 33) (L' := [some (.inr (.inr (some 79))), some (.inl 0), some (.inl p2)]) (st' := [.inr (.inr (some 79))]) (w' := (SH, dt)) rfl ?_
      refine go_callq PM162 PM159 (Q' := _) rfl rfl rfl rfl (sp_X6_next0_p0 L xs sio (d + 0) dt hI   (by first | exact True.intro | with_reducible assumption | exact unhid (by with_reducible assumption) | rfl | omega | trivial) (by first | exact True.intro | with_reducible assumption | exact unhid (by with_reducible assumption) | rfl | fail | trivial)) ?_
      rintro _ _ ⟨dt9, rfl, hI10, hF11, h8⟩
      refine ⟨rfl, ?_⟩
      have hF12 : Fr [79] dt dt9 := Fr_tr hF hF11 (by decide)
      rcases h8 with ⟨rfl, h8⟩
      obtain ⟨h8_0, h8_1, h8_2, h8_3, h8_4, h8_5, h8_6, h8_7, h8_8⟩ := h8
      have w13 : dt9 79 2 = dt 79 2 := h8_2
      have w14 : dt9 79 9 = dt 79 9 := h8_3
      have w15 : dt9 79 10 = dt 79 10 := h8_4
      have w16 : dt9 79 11 = dt 79 11 := h8_5
      have w17 : dt9 79 12 = dt 79 12 := h8_6
      have w18 : dt9 79 17 = dt 79 17 := h8_7
      have w19 : dt9 79 20 = dt 79 20 := h8_8
      have hq20 := h8_0
      rw [hbb, show (dt 79 12).toNat = n from (congrArg Int.toNat hnn).trans (Int.toNat_natCast n)] at hq20
      have hc21 : CUR 0 b n dt9 (i + 1) := CUR_n hc hq20
      have hi22 : i + 1 ≤ t := by (have z_ := unhid u5_; omega)
      have av23 : dt 79 15 + 1 ≤ dt 79 13 := by (have z_ := unhid u5_; omega)
      have cr24 := hid (CUR_R hc21 (.inl rfl))
      have cd25 := CUR_d (hc21)
      have cb25 := hid (CUR_b hc21)
      have cv26 := hid (CUR_v hc21)
      have ck27 := hid (KZ_lt (i := (i + 1)) hz)
      have c128 := (hc21).1
      have ci29 := hi22
      clear h8_2 h8_3 h8_4 h8_5 h8_6 h8_7 h8_8
      refine go_retq PM162 (k := 1) (r := some (.inl 1)) (w1 := (SH, dt9)) rfl ?_
      exact ⟨dt9, rfl, hI10, hF12, (Or.inr ⟨rfl, ⟨by exact RSX_ok (by clear cr24 cb25 cv26 ck27; show gA _ _ _ _ = _; unfold gA; rw [if_pos (by (have z_ := unhid cr0; omega)), if_pos (by (have z0_ := unhid cr0; have z1_ := unhid cb0; have z2_ := unhid cv0; have z3_ := unhid ck0; omega))]) hc21, by clear cr24 cb25 cv26 ck27; (have z0_ := unhid cr0; have z1_ := unhid cb0; have z2_ := unhid cv0; have z3_ := unhid ck0; omega), by first | exact True.intro | with_reducible assumption | exact unhid (by with_reducible assumption) | rfl | omega | trivial, by exact (InvC_get (by assumption) 79 15 rfl rfl).2, by first | exact True.intro | with_reducible assumption | exact unhid (by with_reducible assumption) | rfl | fail | trivial, by first | exact True.intro | with_reducible assumption | exact unhid (by with_reducible assumption) | rfl | fail | trivial, by first | exact True.intro | with_reducible assumption | exact unhid (by with_reducible assumption) | rfl | fail | trivial, by first | exact True.intro | with_reducible assumption | exact unhid (by with_reducible assumption) | rfl | fail | trivial, by first | exact True.intro | with_reducible assumption | exact unhid (by with_reducible assumption) | rfl | fail | trivial, by first | exact True.intro | with_reducible assumption | exact unhid (by with_reducible assumption) | rfl | fail | trivial, by first | exact True.intro | with_reducible assumption | exact unhid (by with_reducible assumption) | rfl | fail | trivial⟩⟩)⟩
    · skip
      refine go_toq PM162 (k := 3) (pc' := 28) (L' := [some (.inr (.inr (some 79))), some (.inl 0), some (.inl p2)]) (st' := [.inl 2, .inr (.inr (some 79))]) (w' := (SH, dt)) rfl ?_
      refine go_callq PM162 PM160 (Q' := _) rfl rfl rfl rfl (sp_X6_bad_g L xs sio (d + 6) dt hI  2 ⟨by decide, by decide⟩ ) ?_
      rintro _ _ ⟨dt31, rfl, hI32, hF33, h30⟩
      refine ⟨rfl, ?_⟩
      have hF34 : Fr [79] dt dt31 := Fr_tr hF hF33 (by decide)
      rcases h30 with ⟨rfl, h30⟩
      obtain ⟨h30_0, h30_1, h30_2, h30_3, h30_4, h30_5, h30_6, h30_7, h30_8, h30_9, h30_10, h30_11⟩ := h30
      have w35 : dt31 79 2 = dt 79 2 := h30_2
      have w36 : dt31 79 9 = dt 79 9 := h30_3
      have w37 : dt31 79 10 = dt 79 10 := h30_4
      have w38 : dt31 79 11 = dt 79 11 := h30_5
      have w39 : dt31 79 12 = dt 79 12 := h30_6
      have w40 : dt31 79 13 = dt 79 13 := h30_7
      have w41 : dt31 79 14 = dt 79 14 := h30_8
      have w42 : dt31 79 15 = dt 79 15 := h30_9
      have w43 : dt31 79 16 = dt 79 16 := h30_10
      have w44 : dt31 79 20 = dt 79 20 := h30_11
      have hc45 : CUR 0 b n dt31 i := CUR_sm hc (by first | with_reducible assumption | exact unhid (by with_reducible assumption) | rfl | fail) (by first | with_reducible assumption | exact unhid (by with_reducible assumption) | rfl | fail) (by first | with_reducible assumption | exact unhid (by with_reducible assumption) | rfl | fail) (by first | with_reducible assumption | exact unhid (by with_reducible assumption) | rfl | fail)
      clear h30_2 h30_3 h30_4 h30_5 h30_6 h30_7 h30_8 h30_9 h30_10 h30_11
      refine go_retq PM162 (k := 0) (r := some (.inl 0)) (w1 := (SH, dt31)) rfl ?_
      exact ⟨dt31, rfl, hI32, hF34, (Or.inl ⟨rfl, ⟨by first | exact RSX_no (k := 1) (j := i) (by show gA _ _ _ _ = _; unfold gA; rw [if_neg (by fail)]) (by decide) (by fail) (by show _ = ((TP b n i : Nat) : Int); fail) | exact RSX_no (k := 2) (j := i) (by show gA _ _ _ _ = _; unfold gA; rw [if_pos (by (have z_ := unhid cr0; omega)), if_neg (by (have z_ := unhid u5_; omega))]) (by decide) (by omega) (by show _ = ((TP b n i : Nat) : Int); omega), by first | exact True.intro | with_reducible assumption | exact unhid (by with_reducible assumption) | rfl | fail | trivial, by first | exact True.intro | with_reducible assumption | exact unhid (by with_reducible assumption) | rfl | fail | trivial, by first | exact True.intro | with_reducible assumption | exact unhid (by with_reducible assumption) | rfl | fail | trivial, by first | exact True.intro | with_reducible assumption | exact unhid (by with_reducible assumption) | rfl | fail | trivial⟩⟩)⟩
  · skip
    replace c6 := hid c6
    refine go_toq PM162 (k := 2) (pc' := 10) (L' := [some (.inr (.inr (some 79))), some (.inl 0), some (.inl p2)]) (st' := [.inl 1, .inr (.inr (some 79))]) (w' := (SH, dt)) rfl ?_
    refine go_callq PM162 PM160 (Q' := _) rfl rfl rfl rfl (sp_X6_bad_g L xs sio (d + 6) dt hI  1 ⟨by decide, by decide⟩ ) ?_
    rintro _ _ ⟨dt47, rfl, hI48, hF49, h46⟩
    refine ⟨rfl, ?_⟩
    have hF50 : Fr [79] dt dt47 := Fr_tr hF hF49 (by decide)
    rcases h46 with ⟨rfl, h46⟩
    obtain ⟨h46_0, h46_1, h46_2, h46_3, h46_4, h46_5, h46_6, h46_7, h46_8, h46_9, h46_10, h46_11⟩ := h46
    have w51 : dt47 79 2 = dt 79 2 := h46_2
    have w52 : dt47 79 9 = dt 79 9 := h46_3
    have w53 : dt47 79 10 = dt 79 10 := h46_4
    have w54 : dt47 79 11 = dt 79 11 := h46_5
    have w55 : dt47 79 12 = dt 79 12 := h46_6
    have w56 : dt47 79 13 = dt 79 13 := h46_7
    have w57 : dt47 79 14 = dt 79 14 := h46_8
    have w58 : dt47 79 15 = dt 79 15 := h46_9
    have w59 : dt47 79 16 = dt 79 16 := h46_10
    have w60 : dt47 79 20 = dt 79 20 := h46_11
    have u8_ := hid (And.intro (unhid cr0) (And.intro (unhid cb0) (And.intro (unhid cv0) (And.intro (unhid ck0) (unhid c6)))))
    have hc61 : CUR 0 b n dt47 i := CUR_sm hc (by first | with_reducible assumption | exact unhid (by with_reducible assumption) | rfl | fail) (by first | with_reducible assumption | exact unhid (by with_reducible assumption) | rfl | fail) (by first | with_reducible assumption | exact unhid (by with_reducible assumption) | rfl | fail) (by first | with_reducible assumption | exact unhid (by with_reducible assumption) | rfl | fail)
    clear h46_2 h46_3 h46_4 h46_5 h46_6 h46_7 h46_8 h46_9 h46_10 h46_11
    refine go_retq PM162 (k := 0) (r := some (.inl 0)) (w1 := (SH, dt47)) rfl ?_
    exact ⟨dt47, rfl, hI48, hF50, (Or.inl ⟨rfl, ⟨by first | exact RSX_no (k := 1) (j := i) (by show gA _ _ _ _ = _; unfold gA; rw [if_neg (by (have z_ := unhid u8_; omega))]) (by decide) (by omega) (by show _ = ((TP b n i : Nat) : Int); omega) | exact RSX_no (k := 2) (j := i) (by show gA _ _ _ _ = _; unfold gA; rw [if_pos (by fail), if_neg (by fail)]) (by decide) (by fail) (by show _ = ((TP b n i : Nat) : Int); fail), by first | exact True.intro | with_reducible assumption | exact unhid (by with_reducible assumption) | rfl | fail | trivial, by first | exact True.intro | with_reducible assumption | exact unhid (by with_reducible assumption) | rfl | fail | trivial, by first | exact True.intro | with_reducible assumption | exact unhid (by with_reducible assumption) | rfl | fail | trivial, by first | exact True.intro | with_reducible assumption | exact unhid (by with_reducible assumption) | rfl | fail | trivial⟩⟩)⟩
set_option maxRecDepth 20000 in
theorem sp_X6_need0_g1 (L : Nat) (xs : Nat → Int32) (sio : Option Nat) (d : Nat) (dt : Nat → Nat → Int) (hI : InvC dt) (b : Nat → Int) (n t i : Nat) (hbb : mB (dt 85) (dt 79 12) = b) (hnn : dt 79 12 = (n : Int)) (hz : KZ (KF 1 b n) t) (ht : t ≤ 500) (hc : CUR 1 b n dt i) (hi : i ≤ t) (hn5 : n ≤ 500) (p1 : Int) (h_p1 : 140 ≤ p1 ∧ p1 ≤ 162) (h_p0 : dt 79 9 = 1) : GO (am_XX L xs sio) (d + 7) 161 0 [some (.inr (.inr (some 79))), some (.inl p1)] [] (SH, dt) (fun r w2 => ∃ dt2 : Nat → Nat → Int, w2 = (SH, dt2) ∧ InvC dt2 ∧ Fr [79] dt dt2 ∧ ((r = some (.inl 0) ∧ (RSX 1 b n i dt2 0 ((gK (KF 1 b n) (p1 - 100)) i)) ∧ (dt2 79 2 = dt 79 2) ∧ (dt2 79 9 = dt 79 9) ∧ (dt2 79 10 = dt 79 10) ∧ (dt2 79 12 = dt 79 12)) ∨ (r = some (.inl 1) ∧ (RSX 1 b n i dt2 1 ((gK (KF 1 b n) (p1 - 100)) i)) ∧ (dt 79 15 + 1 ≤ dt2 79 15) ∧ (dt2 79 15 ≤ 500) ∧ (dt2 79 2 = dt 79 2) ∧ (dt2 79 9 = dt 79 9) ∧ (dt2 79 10 = dt 79 10) ∧ (dt2 79 11 = dt 79 11) ∧ (dt2 79 12 = dt 79 12) ∧ (dt2 79 17 = dt 79 17) ∧ (dt2 79 20 = dt 79 20)))) := by
  have hF : Fr [79] dt dt := Fr_refl
  have r1 : 0 ≤ dt 79 15 ∧ dt 79 15 ≤ 500 := InvC_get hI 79 15 rfl rfl
  have r2 : 0 ≤ dt 79 11 ∧ dt 79 11 ≤ 510 := InvC_get hI 79 11 rfl rfl
  have r3 : 0 ≤ dt 79 10 ∧ dt 79 10 ≤ 24 := InvC_get hI 79 10 rfl rfl
  have cr0 := hid (CUR_R hc (.inr rfl))
  have cd0 := CUR_d (hc)
  have cb0 := hid (CUR_b hc)
  have cv0 := hid (CUR_v hc)
  have ck0 := hid (KZ_lt (i := i) hz)
  have c10 := hc.1
  have r4 : (-2147483648) ≤ dt 79 14 ∧ dt 79 14 ≤ 2147483647 := InvC_get hI 79 14 rfl rfl
  have u9_ := hid (And.intro (unhid cr0) (And.intro (unhid cb0) (And.intro (unhid cv0) (unhid ck0))))
  refine go_ifq PM161 (k := 3) (p1 := 14) (p2 := 8) (L' := [some (.inr (.inr (some 79))), some (.inl p1)]) (st' := []) (w' := (SH, dt)) rfl (c_eq (a := dt 79 14) (b := p1) (by first | exact bnd r4 (by decide) (by decide) | exact ⟨by fail, by fail⟩) (by first | exact bnd h_p1 (by decide) (by decide) | exact ⟨by fail, by fail⟩)) (fun c5 => ?_) (fun c5 => ?_)
  · skip
    refine go_toq PM161 (k := 1) (pc' := 15) (L' := [some (.inr (.inr (some 79))), some (.inl p1)]) (st' := [.inr (.inr (some 79))]) (w' := (SH, dt)) rfl ?_
    refine go_callq PM161 PM159 (Q' := _) rfl rfl rfl rfl (sp_X6_next0_p1 L xs sio (d + 0) dt hI   (by first | exact True.intro | with_reducible assumption | exact unhid (by with_reducible assumption) | rfl | omega | trivial) (by first | exact True.intro | with_reducible assumption | exact unhid (by with_reducible assumption) | rfl | fail | trivial)) ?_
    rintro _ _ ⟨dt7, rfl, hI8, hF9, h6⟩
    refine ⟨rfl, ?_⟩
    have hF10 : Fr [79] dt dt7 := Fr_tr hF hF9 (by decide)
    rcases h6 with ⟨rfl, h6⟩
    obtain ⟨h6_0, h6_1, h6_2, h6_3, h6_4, h6_5, h6_6, h6_7, h6_8⟩ := h6
    have w11 : dt7 79 2 = dt 79 2 := h6_2
    have w12 : dt7 79 9 = dt 79 9 := h6_3
    have w13 : dt7 79 10 = dt 79 10 := h6_4
    have w14 : dt7 79 11 = dt 79 11 := h6_5
    have w15 : dt7 79 12 = dt 79 12 := h6_6
    have w16 : dt7 79 17 = dt 79 17 := h6_7
    have w17 : dt7 79 20 = dt 79 20 := h6_8
    have hq18 := h6_0
    rw [hbb, show (dt 79 12).toNat = n from (congrArg Int.toNat hnn).trans (Int.toNat_natCast n)] at hq18
    have hc19 : CUR 1 b n dt7 (i + 1) := CUR_n hc hq18
    have hi20 : i + 1 ≤ t := by (have z_ := unhid u9_; omega)
    have av21 : dt 79 15 + 1 ≤ dt 79 13 := by (have z_ := unhid u9_; omega)
    have cr22 := hid (CUR_R hc19 (.inr rfl))
    have cd23 := CUR_d (hc19)
    have cb23 := hid (CUR_b hc19)
    have cv24 := hid (CUR_v hc19)
    have ck25 := hid (KZ_lt (i := (i + 1)) hz)
    have c126 := (hc19).1
    have ci27 := hi20
    clear h6_2 h6_3 h6_4 h6_5 h6_6 h6_7 h6_8
    refine go_retq PM161 (k := 1) (r := some (.inl 1)) (w1 := (SH, dt7)) rfl ?_
    exact ⟨dt7, rfl, hI8, hF10, (Or.inr ⟨rfl, ⟨by exact RSX_ok (by clear cr22 cb23 cv24 ck25; show gK _ _ _ = _; unfold gK; rw [if_pos (by (have z_ := unhid cr0; omega))]) hc19, by first | exact True.intro | with_reducible assumption | exact unhid (by with_reducible assumption) | rfl | omega | trivial, by exact (InvC_get (by assumption) 79 15 rfl rfl).2, by first | exact True.intro | with_reducible assumption | exact unhid (by with_reducible assumption) | rfl | fail | trivial, by first | exact True.intro | with_reducible assumption | exact unhid (by with_reducible assumption) | rfl | fail | trivial, by first | exact True.intro | with_reducible assumption | exact unhid (by with_reducible assumption) | rfl | fail | trivial, by first | exact True.intro | with_reducible assumption | exact unhid (by with_reducible assumption) | rfl | fail | trivial, by first | exact True.intro | with_reducible assumption | exact unhid (by with_reducible assumption) | rfl | fail | trivial, by first | exact True.intro | with_reducible assumption | exact unhid (by with_reducible assumption) | rfl | fail | trivial, by first | exact True.intro | with_reducible assumption | exact unhid (by with_reducible assumption) | rfl | fail | trivial⟩⟩)⟩
  · skip
    replace c5 := hid c5
    refine go_toq PM161 (k := 2) (pc' := 10) (L' := [some (.inr (.inr (some 79))), some (.inl p1)]) (st' := [.inl 1, .inr (.inr (some 79))]) (w' := (SH, dt)) rfl ?_
    refine go_callq PM161 PM160 (Q' := _) rfl rfl rfl rfl (sp_X6_bad_g L xs sio (d + 6) dt hI  1 ⟨by decide, by decide⟩ ) ?_
    rintro _ _ ⟨dt29, rfl, hI30, hF31, h28⟩
    refine ⟨rfl, ?_⟩
    have hF32 : Fr [79] dt dt29 := Fr_tr hF hF31 (by decide)
    rcases h28 with ⟨rfl, h28⟩
    obtain ⟨h28_0, h28_1, h28_2, h28_3, h28_4, h28_5, h28_6, h28_7, h28_8, h28_9, h28_10, h28_11⟩ := h28
    have w33 : dt29 79 2 = dt 79 2 := h28_2
    have w34 : dt29 79 9 = dt 79 9 := h28_3
    have w35 : dt29 79 10 = dt 79 10 := h28_4
    have w36 : dt29 79 11 = dt 79 11 := h28_5
    have w37 : dt29 79 12 = dt 79 12 := h28_6
    have w38 : dt29 79 13 = dt 79 13 := h28_7
    have w39 : dt29 79 14 = dt 79 14 := h28_8
    have w40 : dt29 79 15 = dt 79 15 := h28_9
    have w41 : dt29 79 16 = dt 79 16 := h28_10
    have w42 : dt29 79 20 = dt 79 20 := h28_11
    have u12_ := hid (And.intro (unhid cr0) (And.intro (unhid cb0) (And.intro (unhid cv0) (And.intro (unhid ck0) (unhid c5)))))
    have hc43 : CUR 1 b n dt29 i := CUR_sm hc (by first | with_reducible assumption | exact unhid (by with_reducible assumption) | rfl | fail) (by first | with_reducible assumption | exact unhid (by with_reducible assumption) | rfl | fail) (by first | with_reducible assumption | exact unhid (by with_reducible assumption) | rfl | fail) (by first | with_reducible assumption | exact unhid (by with_reducible assumption) | rfl | fail)
    clear h28_2 h28_3 h28_4 h28_5 h28_6 h28_7 h28_8 h28_9 h28_10 h28_11
    refine go_retq PM161 (k := 0) (r := some (.inl 0)) (w1 := (SH, dt29)) rfl ?_
    exact ⟨dt29, rfl, hI30, hF32, (Or.inl ⟨rfl, ⟨by exact RSX_no (k := 1) (j := i) (by show gK _ _ _ = _; unfold gK; rw [if_neg (by (have z_ := unhid u12_; omega))]) (by decide) (by omega) (by show _ = ((TP b n i : Nat) : Int); omega), by first | exact True.intro | with_reducible assumption | exact unhid (by with_reducible assumption) | rfl | fail | trivial, by first | exact True.intro | with_reducible assumption | exact unhid (by with_reducible assumption) | rfl | fail | trivial, by first | exact True.intro | with_reducible assumption | exact unhid (by with_reducible assumption) | rfl | fail | trivial, by first | exact True.intro | with_reducible assumption | exact unhid (by with_reducible assumption) | rfl | fail | trivial⟩⟩)⟩
set_option maxRecDepth 20000 in
theorem sp_X6_number_g1a (L : Nat) (xs : Nat → Int32) (sio : Option Nat) (d : Nat) (dt : Nat → Nat → Int) (hI : InvC dt) (b : Nat → Int) (n t i : Nat) (hbb : mB (dt 85) (dt 79 12) = b) (hnn : dt 79 12 = (n : Int)) (hz : KZ (KF 1 b n) t) (ht : t ≤ 500) (hc : CUR 1 b n dt i) (hi : i ≤ t) (hn5 : n ≤ 500) (p2 : Int) (h_p2 : 0 ≤ p2 ∧ p2 ≤ 9999) (h_p0 : dt 79 9 = 1) : GO (am_XX L xs sio) (d + 7) 162 0 [some (.inr (.inr (some 79))), some (.inl 0), some (.inl p2)] [] (SH, dt) (fun r w2 => ∃ dt2 : Nat → Nat → Int, w2 = (SH, dt2) ∧ InvC dt2 ∧ Fr [79] dt dt2 ∧ ((r = some (.inl 0) ∧ (RSX 1 b n i dt2 0 ((gA (KF 1 b n) (VF b n) p2) i)) ∧ (dt2 79 2 = dt 79 2) ∧ (dt2 79 9 = dt 79 9) ∧ (dt2 79 10 = dt 79 10) ∧ (dt2 79 12 = dt 79 12)) ∨ (r = some (.inl 1) ∧ (RSX 1 b n i dt2 1 ((gA (KF 1 b n) (VF b n) p2) i)) ∧ (dt 79 16 = VF b n i) ∧ (dt 79 15 + 1 ≤ dt2 79 15) ∧ (dt2 79 15 ≤ 500) ∧ (dt2 79 2 = dt 79 2) ∧ (dt2 79 9 = dt 79 9) ∧ (dt2 79 10 = dt 79 10) ∧ (dt2 79 11 = dt 79 11) ∧ (dt2 79 12 = dt 79 12) ∧ (dt2 79 17 = dt 79 17) ∧ (dt2 79 20 = dt 79 20)))) := by
  have hF : Fr [79] dt dt := Fr_refl
  have r1 : 0 ≤ dt 79 15 ∧ dt 79 15 ≤ 500 := InvC_get hI 79 15 rfl rfl
  have r2 : 0 ≤ dt 79 11 ∧ dt 79 11 ≤ 510 := InvC_get hI 79 11 rfl rfl
  have r3 : 0 ≤ dt 79 10 ∧ dt 79 10 ≤ 24 := InvC_get hI 79 10 rfl rfl
  have r4 : 0 ≤ dt 79 16 ∧ dt 79 16 ≤ 9999 := InvC_get hI 79 16 rfl rfl
  have cr0 := hid (CUR_R hc (.inr rfl))
  have cd0 := CUR_d (hc)
  have cb0 := hid (CUR_b hc)
  have cv0 := hid (CUR_v hc)
  have ck0 := hid (KZ_lt (i := i) hz)
  have c10 := hc.1
  have r5 : (-2147483648) ≤ dt 79 14 ∧ dt 79 14 ≤ 2147483647 := InvC_get hI 79 14 rfl rfl
  have u13_ := hid (And.intro (unhid cr0) (And.intro (unhid cb0) (And.intro (unhid cv0) (unhid ck0))))
  refine go_ifq PM162 (k := 3) (p1 := 14) (p2 := 8) (L' := [some (.inr (.inr (some 79))), some (.inl 0), some (.inl p2)]) (st' := []) (w' := (SH, dt)) rfl (c_eq (a := dt 79 14) (b := 2) (by first | exact bnd r5 (by decide) (by decide) | exact ⟨by fail, by fail⟩) ⟨by decide, by decide⟩) (fun c6 => ?_) (fun c6 => ?_)
  · skip
    refine go_toq PM162 (k := 4) (pc' := 20) (L' := [some (.inr (.inr (some 79))), some (.inl 0), some (.inl p2)]) (st' := [.inl p2, .inl 0, .inl (dt 79 16)]) (w' := (SH, dt)) rfl ?_
    refine go_callq PM162 PM146 (Q' := _) rfl rfl rfl rfl (sp_X6_isIn L xs sio (d + 6) dt hI  (dt 79 16) (by first | exact bnd r4 (by decide) (by decide) | exact ⟨by fail, by fail⟩) 0 ⟨by decide, by decide⟩ p2 (by first | exact h_p2 | exact bnd h_p2 (by decide) (by decide) | exact ⟨by fail, by fail⟩) ) ?_
    rintro _ _ ⟨rfl, h7⟩
    refine ⟨rfl, ?_⟩
    rcases h7 with ⟨rfl, h7⟩ | ⟨rfl, h7⟩
    · skip
      refine go_toq PM162 (k := 2) (pc' := 33) (L' := [some (.inr (.inr (some 79))), some (.inl 0), some (.inl p2)]) (st' := [.inr (.inr (some 79))]) (w' := (SH, dt)) rfl ?_
      refine go_callq PM162 PM159 (Q' := _) rfl rfl rfl rfl (sp_X6_next0_p1 L xs sio (d + 0) dt hI   (by first | exact True.intro | with_reducible assumption | exact unhid (by with_reducible assumption) | rfl | omega | trivial) (by first | exact True.intro | with_reducible assumption | exact unhid (by with_reducible assumption) | rfl | fail | trivial)) ?_
      rintro _ _ ⟨dt9, rfl, hI10, hF11, h8⟩
      refine ⟨rfl, ?_⟩
      have hF12 : Fr [79] dt dt9 := Fr_tr hF hF11 (by decide)
      rcases h8 with ⟨rfl, h8⟩
      obtain ⟨h8_0, h8_1, h8_2, h8_3, h8_4, h8_5, h8_6, h8_7, h8_8⟩ := h8
      have w13 : dt9 79 2 = dt 79 2 := h8_2
      have w14 : dt9 79 9 = dt 79 9 := h8_3
      have w15 : dt9 79 10 = dt 79 10 := h8_4
      have w16 : dt9 79 11 = dt 79 11 := h8_5
      have w17 : dt9 79 12 = dt 79 12 := h8_6
      have w18 : dt9 79 17 = dt 79 17 := h8_7
      have w19 : dt9 79 20 = dt 79 20 := h8_8
      have hq20 := h8_0
      rw [hbb, show (dt 79 12).toNat = n from (congrArg Int.toNat hnn).trans (Int.toNat_natCast n)] at hq20
      have hc21 : CUR 1 b n dt9 (i + 1) := CUR_n hc hq20
      have hi22 : i + 1 ≤ t := by (have z_ := unhid u13_; omega)
      have av23 : dt 79 15 + 1 ≤ dt 79 13 := by (have z_ := unhid u13_; omega)
      have cr24 := hid (CUR_R hc21 (.inr rfl))
      have cd25 := CUR_d (hc21)
      have cb25 := hid (CUR_b hc21)
      have cv26 := hid (CUR_v hc21)
      have ck27 := hid (KZ_lt (i := (i + 1)) hz)
      have c128 := (hc21).1
      have ci29 := hi22
      clear h8_2 h8_3 h8_4 h8_5 h8_6 h8_7 h8_8
      refine go_retq PM162 (k := 1) (r := some (.inl 1)) (w1 := (SH, dt9)) rfl ?_
      exact ⟨dt9, rfl, hI10, hF12, (Or.inr ⟨rfl, ⟨by exact RSX_ok (by clear cr24 cb25 cv26 ck27; show gA _ _ _ _ = _; unfold gA; rw [if_pos (by (have z_ := unhid cr0; omega)), if_pos (by (have z0_ := unhid cr0; have z1_ := unhid cb0; have z2_ := unhid cv0; have z3_ := unhid ck0; omega))]) hc21, by clear cr24 cb25 cv26 ck27; (have z0_ := unhid cr0; have z1_ := unhid cb0; have z2_ := unhid cv0; have z3_ := unhid ck0; omega), by first | exact True.intro | with_reducible assumption | exact unhid (by with_reducible assumption) | rfl | omega | trivial, by exact (InvC_get (by assumption) 79 15 rfl rfl).2, by first | exact True.intro | with_reducible assumption | exact unhid (by with_reducible assumption) | rfl | fail | trivial, by first | exact True.intro | with_reducible assumption | exact unhid (by with_reducible assumption) | rfl | fail | trivial, by first | exact True.intro | with_reducible assumption | exact unhid (by with_reducible assumption) | rfl | fail | trivial, by first | exact True.intro | with_reducible assumption | exact unhid (by with_reducible assumption) | rfl | fail | trivial, by first | exact True.intro | with_reducible assumption | exact unhid (by with_reducible assumption) | rfl | fail | trivial, by first | exact True.intro | with_reducible assumption | exact unhid (by with_reducible assumption) | rfl | fail | trivial, by first | exact True.intro | with_reducible assumption | exact unhid (by with_reducible assumption) | rfl | fail | trivial⟩⟩)⟩
    · skip
      refine go_toq PM162 (k := 3) (pc' := 28) (L' := [some (.inr (.inr (some 79))), some (.inl 0), some (.inl p2)]) (st' := [.inl 2, .inr (.inr (some 79))]) (w' := (SH, dt)) rfl ?_
      refine go_callq PM162 PM160 (Q' := _) rfl rfl rfl rfl (sp_X6_bad_g L xs sio (d + 6) dt hI  2 ⟨by decide, by decide⟩ ) ?_
      rintro _ _ ⟨dt31, rfl, hI32, hF33, h30⟩
      refine ⟨rfl, ?_⟩
      have hF34 : Fr [79] dt dt31 := Fr_tr hF hF33 (by decide)
      rcases h30 with ⟨rfl, h30⟩
      obtain ⟨h30_0, h30_1, h30_2, h30_3, h30_4, h30_5, h30_6, h30_7, h30_8, h30_9, h30_10, h30_11⟩ := h30
      have w35 : dt31 79 2 = dt 79 2 := h30_2
      have w36 : dt31 79 9 = dt 79 9 := h30_3
      have w37 : dt31 79 10 = dt 79 10 := h30_4
      have w38 : dt31 79 11 = dt 79 11 := h30_5
      have w39 : dt31 79 12 = dt 79 12 := h30_6
      have w40 : dt31 79 13 = dt 79 13 := h30_7
      have w41 : dt31 79 14 = dt 79 14 := h30_8
      have w42 : dt31 79 15 = dt 79 15 := h30_9
      have w43 : dt31 79 16 = dt 79 16 := h30_10
      have w44 : dt31 79 20 = dt 79 20 := h30_11
      have hc45 : CUR 1 b n dt31 i := CUR_sm hc (by first | with_reducible assumption | exact unhid (by with_reducible assumption) | rfl | fail) (by first | with_reducible assumption | exact unhid (by with_reducible assumption) | rfl | fail) (by first | with_reducible assumption | exact unhid (by with_reducible assumption) | rfl | fail) (by first | with_reducible assumption | exact unhid (by with_reducible assumption) | rfl | fail)
      clear h30_2 h30_3 h30_4 h30_5 h30_6 h30_7 h30_8 h30_9 h30_10 h30_11
      refine go_retq PM162 (k := 0) (r := some (.inl 0)) (w1 := (SH, dt31)) rfl ?_
      exact ⟨dt31, rfl, hI32, hF34, (Or.inl ⟨rfl, ⟨by first | exact RSX_no (k := 1) (j := i) (by show gA _ _ _ _ = _; unfold gA; rw [if_neg (by fail)]) (by decide) (by fail) (by show _ = ((TP b n i : Nat) : Int); fail) | exact RSX_no (k := 2) (j := i) (by show gA _ _ _ _ = _; unfold gA; rw [if_pos (by (have z_ := unhid cr0; omega)), if_neg (by (have z_ := unhid u13_; omega))]) (by decide) (by omega) (by show _ = ((TP b n i : Nat) : Int); omega), by first | exact True.intro | with_reducible assumption | exact unhid (by with_reducible assumption) | rfl | fail | trivial, by first | exact True.intro | with_reducible assumption | exact unhid (by with_reducible assumption) | rfl | fail | trivial, by first | exact True.intro | with_reducible assumption | exact unhid (by with_reducible assumption) | rfl | fail | trivial, by first | exact True.intro | with_reducible assumption | exact unhid (by with_reducible assumption) | rfl | fail | trivial⟩⟩)⟩
  · skip
    replace c6 := hid c6
    refine go_toq PM162 (k := 2) (pc' := 10) (L' := [some (.inr (.inr (some 79))), some (.inl 0), some (.inl p2)]) (st' := [.inl 1, .inr (.inr (some 79))]) (w' := (SH, dt)) rfl ?_
    refine go_callq PM162 PM160 (Q' := _) rfl rfl rfl rfl (sp_X6_bad_g L xs sio (d + 6) dt hI  1 ⟨by decide, by decide⟩ ) ?_
    rintro _ _ ⟨dt47, rfl, hI48, hF49, h46⟩
    refine ⟨rfl, ?_⟩
    have hF50 : Fr [79] dt dt47 := Fr_tr hF hF49 (by decide)
    rcases h46 with ⟨rfl, h46⟩
    obtain ⟨h46_0, h46_1, h46_2, h46_3, h46_4, h46_5, h46_6, h46_7, h46_8, h46_9, h46_10, h46_11⟩ := h46
    have w51 : dt47 79 2 = dt 79 2 := h46_2
    have w52 : dt47 79 9 = dt 79 9 := h46_3
    have w53 : dt47 79 10 = dt 79 10 := h46_4
    have w54 : dt47 79 11 = dt 79 11 := h46_5
    have w55 : dt47 79 12 = dt 79 12 := h46_6
    have w56 : dt47 79 13 = dt 79 13 := h46_7
    have w57 : dt47 79 14 = dt 79 14 := h46_8
    have w58 : dt47 79 15 = dt 79 15 := h46_9
    have w59 : dt47 79 16 = dt 79 16 := h46_10
    have w60 : dt47 79 20 = dt 79 20 := h46_11
    have u16_ := hid (And.intro (unhid cr0) (And.intro (unhid cb0) (And.intro (unhid cv0) (And.intro (unhid ck0) (unhid c6)))))
    have hc61 : CUR 1 b n dt47 i := CUR_sm hc (by first | with_reducible assumption | exact unhid (by with_reducible assumption) | rfl | fail) (by first | with_reducible assumption | exact unhid (by with_reducible assumption) | rfl | fail) (by first | with_reducible assumption | exact unhid (by with_reducible assumption) | rfl | fail) (by first | with_reducible assumption | exact unhid (by with_reducible assumption) | rfl | fail)
    clear h46_2 h46_3 h46_4 h46_5 h46_6 h46_7 h46_8 h46_9 h46_10 h46_11
    refine go_retq PM162 (k := 0) (r := some (.inl 0)) (w1 := (SH, dt47)) rfl ?_
    exact ⟨dt47, rfl, hI48, hF50, (Or.inl ⟨rfl, ⟨by first | exact RSX_no (k := 1) (j := i) (by show gA _ _ _ _ = _; unfold gA; rw [if_neg (by (have z_ := unhid u16_; omega))]) (by decide) (by omega) (by show _ = ((TP b n i : Nat) : Int); omega) | exact RSX_no (k := 2) (j := i) (by show gA _ _ _ _ = _; unfold gA; rw [if_pos (by fail), if_neg (by fail)]) (by decide) (by fail) (by show _ = ((TP b n i : Nat) : Int); fail), by first | exact True.intro | with_reducible assumption | exact unhid (by with_reducible assumption) | rfl | fail | trivial, by first | exact True.intro | with_reducible assumption | exact unhid (by with_reducible assumption) | rfl | fail | trivial, by first | exact True.intro | with_reducible assumption | exact unhid (by with_reducible assumption) | rfl | fail | trivial, by first | exact True.intro | with_reducible assumption | exact unhid (by with_reducible assumption) | rfl | fail | trivial⟩⟩)⟩
set_option maxRecDepth 20000 in
theorem sp_X6_number_g1d (L : Nat) (xs : Nat → Int32) (sio : Option Nat) (d : Nat) (dt : Nat → Nat → Int) (hI : InvC dt) (b : Nat → Int) (n t i : Nat) (hbb : mB (dt 85) (dt 79 12) = b) (hnn : dt 79 12 = (n : Int)) (hz : KZ (KF 1 b n) t) (ht : t ≤ 500) (hc : CUR 1 b n dt i) (hi : i ≤ t) (hn5 : n ≤ 500)  (h_p0 : dt 79 9 = 1) : GO (am_XX L xs sio) (d + 7) 162 0 [some (.inr (.inr (some 79))), some (.inl 1), some (.inl 9999)] [] (SH, dt) (fun r w2 => ∃ dt2 : Nat → Nat → Int, w2 = (SH, dt2) ∧ InvC dt2 ∧ Fr [79] dt dt2 ∧ ((r = some (.inl 0) ∧ (RSX 1 b n i dt2 0 ((gD (KF 1 b n) (VF b n)) i)) ∧ (dt2 79 2 = dt 79 2) ∧ (dt2 79 9 = dt 79 9) ∧ (dt2 79 10 = dt 79 10) ∧ (dt2 79 12 = dt 79 12)) ∨ (r = some (.inl 1) ∧ (RSX 1 b n i dt2 1 ((gD (KF 1 b n) (VF b n)) i)) ∧ (dt 79 16 = VF b n i) ∧ (dt 79 15 + 1 ≤ dt2 79 15) ∧ (dt2 79 15 ≤ 500) ∧ (dt2 79 2 = dt 79 2) ∧ (dt2 79 9 = dt 79 9) ∧ (dt2 79 10 = dt 79 10) ∧ (dt2 79 11 = dt 79 11) ∧ (dt2 79 12 = dt 79 12) ∧ (dt2 79 17 = dt 79 17) ∧ (dt2 79 20 = dt 79 20)))) := by
  have hF : Fr [79] dt dt := Fr_refl
  have r1 : 0 ≤ dt 79 15 ∧ dt 79 15 ≤ 500 := InvC_get hI 79 15 rfl rfl
  have r2 : 0 ≤ dt 79 11 ∧ dt 79 11 ≤ 510 := InvC_get hI 79 11 rfl rfl
  have r3 : 0 ≤ dt 79 10 ∧ dt 79 10 ≤ 24 := InvC_get hI 79 10 rfl rfl
  have r4 : 0 ≤ dt 79 16 ∧ dt 79 16 ≤ 9999 := InvC_get hI 79 16 rfl rfl
  have cr0 := hid (CUR_R hc (.inr rfl))
  have cd0 := CUR_d (hc)
  have cb0 := hid (CUR_b hc)
  have cv0 := hid (CUR_v hc)
  have ck0 := hid (KZ_lt (i := i) hz)
  have c10 := hc.1
  have r5 : (-2147483648) ≤ dt 79 14 ∧ dt 79 14 ≤ 2147483647 := InvC_get hI 79 14 rfl rfl
  have u17_ := hid (And.intro (unhid cr0) (And.intro (unhid cb0) (And.intro (unhid cv0) (unhid ck0))))
  refine go_ifq PM162 (k := 3) (p1 := 14) (p2 := 8) (L' := [some (.inr (.inr (some 79))), some (.inl 1), some (.inl 9999)]) (st' := []) (w' := (SH, dt)) rfl (c_eq (a := dt 79 14) (b := 2) (by first | exact bnd r5 (by decide) (by decide) | exact ⟨by fail, by fail⟩) ⟨by decide, by decide⟩) (fun c6 => ?_) (fun c6 => ?_)
  · skip
    refine go_toq PM162 (k := 4) (pc' := 20) (L' := [some (.inr (.inr (some 79))), some (.inl 1), some (.inl 9999)]) (st' := [.inl 9999, .inl 1, .inl (dt 79 16)]) (w' := (SH, dt)) rfl ?_
    refine go_callq PM162 PM146 (Q' := _) rfl rfl rfl rfl (sp_X6_isIn L xs sio (d + 6) dt hI  (dt 79 16) (by first | exact bnd r4 (by decide) (by decide) | exact ⟨by fail, by fail⟩) 1 ⟨by decide, by decide⟩ 9999 ⟨by decide, by decide⟩ ) ?_
    rintro _ _ ⟨rfl, h7⟩
    refine ⟨rfl, ?_⟩
    rcases h7 with ⟨rfl, h7⟩ | ⟨rfl, h7⟩
    · skip
      refine go_toq PM162 (k := 2) (pc' := 33) (L' := [some (.inr (.inr (some 79))), some (.inl 1), some (.inl 9999)]) (st' := [.inr (.inr (some 79))]) (w' := (SH, dt)) rfl ?_
      refine go_callq PM162 PM159 (Q' := _) rfl rfl rfl rfl (sp_X6_next0_p1 L xs sio (d + 0) dt hI   (by first | exact True.intro | with_reducible assumption | exact unhid (by with_reducible assumption) | rfl | omega | trivial) (by first | exact True.intro | with_reducible assumption | exact unhid (by with_reducible assumption) | rfl | fail | trivial)) ?_
      rintro _ _ ⟨dt9, rfl, hI10, hF11, h8⟩
      refine ⟨rfl, ?_⟩
      have hF12 : Fr [79] dt dt9 := Fr_tr hF hF11 (by decide)
      rcases h8 with ⟨rfl, h8⟩
      obtain ⟨h8_0, h8_1, h8_2, h8_3, h8_4, h8_5, h8_6, h8_7, h8_8⟩ := h8
      have w13 : dt9 79 2 = dt 79 2 := h8_2
      have w14 : dt9 79 9 = dt 79 9 := h8_3
      have w15 : dt9 79 10 = dt 79 10 := h8_4
      have w16 : dt9 79 11 = dt 79 11 := h8_5
      have w17 : dt9 79 12 = dt 79 12 := h8_6
      have w18 : dt9 79 17 = dt 79 17 := h8_7
      have w19 : dt9 79 20 = dt 79 20 := h8_8
      have hq20 := h8_0
      rw [hbb, show (dt 79 12).toNat = n from (congrArg Int.toNat hnn).trans (Int.toNat_natCast n)] at hq20
      have hc21 : CUR 1 b n dt9 (i + 1) := CUR_n hc hq20
      have hi22 : i + 1 ≤ t := by (have z_ := unhid u17_; omega)
      have av23 : dt 79 15 + 1 ≤ dt 79 13 := by (have z_ := unhid u17_; omega)
      have cr24 := hid (CUR_R hc21 (.inr rfl))
      have cd25 := CUR_d (hc21)
      have cb25 := hid (CUR_b hc21)
      have cv26 := hid (CUR_v hc21)
      have ck27 := hid (KZ_lt (i := (i + 1)) hz)
      have c128 := (hc21).1
      have ci29 := hi22
      clear h8_2 h8_3 h8_4 h8_5 h8_6 h8_7 h8_8
      refine go_retq PM162 (k := 1) (r := some (.inl 1)) (w1 := (SH, dt9)) rfl ?_
      exact ⟨dt9, rfl, hI10, hF12, (Or.inr ⟨rfl, ⟨by exact RSX_ok (by clear cr24 cb25 cv26 ck27; show gD _ _ _ = _; unfold gD; rw [if_pos (by (have z_ := unhid cr0; omega)), if_neg (by (have z0_ := unhid cr0; have z1_ := unhid cb0; have z2_ := unhid cv0; have z3_ := unhid ck0; omega))]) hc21, by clear cr24 cb25 cv26 ck27; (have z0_ := unhid cr0; have z1_ := unhid cb0; have z2_ := unhid cv0; have z3_ := unhid ck0; omega), by first | exact True.intro | with_reducible assumption | exact unhid (by with_reducible assumption) | rfl | omega | trivial, by exact (InvC_get (by assumption) 79 15 rfl rfl).2, by first | exact True.intro | with_reducible assumption | exact unhid (by with_reducible assumption) | rfl | fail | trivial, by first | exact True.intro | with_reducible assumption | exact unhid (by with_reducible assumption) | rfl | fail | trivial, by first | exact True.intro | with_reducible assumption | exact unhid (by with_reducible assumption) | rfl | fail | trivial, by first | exact True.intro | with_reducible assumption | exact unhid (by with_reducible assumption) | rfl | fail | trivial, by first | exact True.intro | with_reducible assumption | exact unhid (by with_reducible assumption) | rfl | fail | trivial, by first | exact True.intro | with_reducible assumption | exact unhid (by with_reducible assumption) | rfl | fail | trivial, by first | exact True.intro | with_reducible assumption | exact unhid (by with_reducible assumption) | rfl | fail | trivial⟩⟩)⟩
    · skip
      refine go_toq PM162 (k := 3) (pc' := 28) (L' := [some (.inr (.inr (some 79))), some (.inl 1), some (.inl 9999)]) (st' := [.inl 2, .inr (.inr (some 79))]) (w' := (SH, dt)) rfl ?_
      refine go_callq PM162 PM160 (Q' := _) rfl rfl rfl rfl (sp_X6_bad_g L xs sio (d + 6) dt hI  2 ⟨by decide, by decide⟩ ) ?_
      rintro _ _ ⟨dt31, rfl, hI32, hF33, h30⟩
      refine ⟨rfl, ?_⟩
      have hF34 : Fr [79] dt dt31 := Fr_tr hF hF33 (by decide)
      rcases h30 with ⟨rfl, h30⟩
      obtain ⟨h30_0, h30_1, h30_2, h30_3, h30_4, h30_5, h30_6, h30_7, h30_8, h30_9, h30_10, h30_11⟩ := h30
      have w35 : dt31 79 2 = dt 79 2 := h30_2
      have w36 : dt31 79 9 = dt 79 9 := h30_3
      have w37 : dt31 79 10 = dt 79 10 := h30_4
      have w38 : dt31 79 11 = dt 79 11 := h30_5
      have w39 : dt31 79 12 = dt 79 12 := h30_6
      have w40 : dt31 79 13 = dt 79 13 := h30_7
      have w41 : dt31 79 14 = dt 79 14 := h30_8
      have w42 : dt31 79 15 = dt 79 15 := h30_9
      have w43 : dt31 79 16 = dt 79 16 := h30_10
      have w44 : dt31 79 20 = dt 79 20 := h30_11
      have hc45 : CUR 1 b n dt31 i := CUR_sm hc (by first | with_reducible assumption | exact unhid (by with_reducible assumption) | rfl | fail) (by first | with_reducible assumption | exact unhid (by with_reducible assumption) | rfl | fail) (by first | with_reducible assumption | exact unhid (by with_reducible assumption) | rfl | fail) (by first | with_reducible assumption | exact unhid (by with_reducible assumption) | rfl | fail)
      clear h30_2 h30_3 h30_4 h30_5 h30_6 h30_7 h30_8 h30_9 h30_10 h30_11
      refine go_retq PM162 (k := 0) (r := some (.inl 0)) (w1 := (SH, dt31)) rfl ?_
      exact ⟨dt31, rfl, hI32, hF34, (Or.inl ⟨rfl, ⟨by first | exact RSX_no (k := 1) (j := i) (by show gD _ _ _ = _; unfold gD; rw [if_neg (by fail)]) (by decide) (by fail) (by show _ = ((TP b n i : Nat) : Int); fail) | exact RSX_no (k := 2) (j := i) (by show gD _ _ _ = _; unfold gD; rw [if_pos (by (have z_ := unhid cr0; omega)), if_pos (by (have z_ := unhid u17_; omega))]) (by decide) (by omega) (by show _ = ((TP b n i : Nat) : Int); omega), by first | exact True.intro | with_reducible assumption | exact unhid (by with_reducible assumption) | rfl | fail | trivial, by first | exact True.intro | with_reducible assumption | exact unhid (by with_reducible assumption) | rfl | fail | trivial, by first | exact True.intro | with_reducible assumption | exact unhid (by with_reducible assumption) | rfl | fail | trivial, by first | exact True.intro | with_reducible assumption | exact unhid (by with_reducible assumption) | rfl | fail | trivial⟩⟩)⟩
  · skip
    replace c6 := hid c6
    refine go_toq PM162 (k := 2) (pc' := 10) (L' := [some (.inr (.inr (some 79))), some (.inl 1), some (.inl 9999)]) (st' := [.inl 1, .inr (.inr (some 79))]) (w' := (SH, dt)) rfl ?_
    refine go_callq PM162 PM160 (Q' := _) rfl rfl rfl rfl (sp_X6_bad_g L xs sio (d + 6) dt hI  1 ⟨by decide, by decide⟩ ) ?_
    rintro _ _ ⟨dt47, rfl, hI48, hF49, h46⟩
    refine ⟨rfl, ?_⟩
    have hF50 : Fr [79] dt dt47 := Fr_tr hF hF49 (by decide)
    rcases h46 with ⟨rfl, h46⟩
    obtain ⟨h46_0, h46_1, h46_2, h46_3, h46_4, h46_5, h46_6, h46_7, h46_8, h46_9, h46_10, h46_11⟩ := h46
    have w51 : dt47 79 2 = dt 79 2 := h46_2
    have w52 : dt47 79 9 = dt 79 9 := h46_3
    have w53 : dt47 79 10 = dt 79 10 := h46_4
    have w54 : dt47 79 11 = dt 79 11 := h46_5
    have w55 : dt47 79 12 = dt 79 12 := h46_6
    have w56 : dt47 79 13 = dt 79 13 := h46_7
    have w57 : dt47 79 14 = dt 79 14 := h46_8
    have w58 : dt47 79 15 = dt 79 15 := h46_9
    have w59 : dt47 79 16 = dt 79 16 := h46_10
    have w60 : dt47 79 20 = dt 79 20 := h46_11
    have u20_ := hid (And.intro (unhid cr0) (And.intro (unhid cb0) (And.intro (unhid cv0) (And.intro (unhid ck0) (unhid c6)))))
    have hc61 : CUR 1 b n dt47 i := CUR_sm hc (by first | with_reducible assumption | exact unhid (by with_reducible assumption) | rfl | fail) (by first | with_reducible assumption | exact unhid (by with_reducible assumption) | rfl | fail) (by first | with_reducible assumption | exact unhid (by with_reducible assumption) | rfl | fail) (by first | with_reducible assumption | exact unhid (by with_reducible assumption) | rfl | fail)
    clear h46_2 h46_3 h46_4 h46_5 h46_6 h46_7 h46_8 h46_9 h46_10 h46_11
    refine go_retq PM162 (k := 0) (r := some (.inl 0)) (w1 := (SH, dt47)) rfl ?_
    exact ⟨dt47, rfl, hI48, hF50, (Or.inl ⟨rfl, ⟨by first | exact RSX_no (k := 1) (j := i) (by show gD _ _ _ = _; unfold gD; rw [if_neg (by (have z_ := unhid u20_; omega))]) (by decide) (by omega) (by show _ = ((TP b n i : Nat) : Int); omega) | exact RSX_no (k := 2) (j := i) (by show gD _ _ _ = _; unfold gD; rw [if_pos (by fail), if_pos (by fail)]) (by decide) (by fail) (by show _ = ((TP b n i : Nat) : Int); fail), by first | exact True.intro | with_reducible assumption | exact unhid (by with_reducible assumption) | rfl | fail | trivial, by first | exact True.intro | with_reducible assumption | exact unhid (by with_reducible assumption) | rfl | fail | trivial, by first | exact True.intro | with_reducible assumption | exact unhid (by with_reducible assumption) | rfl | fail | trivial, by first | exact True.intro | with_reducible assumption | exact unhid (by with_reducible assumption) | rfl | fail | trivial⟩⟩)⟩
