set_option maxHeartbeats 1500000 in
set_option maxRecDepth 20000 in
theorem sp_X6_aLine_g1 (L : Nat) (xs : Nat → Int32) (sio : Option Nat) (d : Nat) (dt : Nat → Nat → Int) (hI : InvC dt) (b : Nat → Int) (n t i : Nat) (hbb : mB (dt 85) (dt 79 12) = b) (hnn : dt 79 12 = (n : Int)) (hz : KZ (KF 1 b n) t) (ht : t ≤ 500) (hc : CUR 1 b n dt i) (hi : i ≤ t) (hn5 : n ≤ 500)  (h_p0 : dt 79 9 = 1) (h_p1 : dt 79 11 ≤ dt 79 15) (h_p2 : 0 ≤ dt 79 10 ∧ dt 79 10 ≤ 16) : GO (am_XX L xs sio) (d + 37) 173 0 [some (.inr (.inr (some 79))), none] [] (SH, dt) (fun r w2 => ∃ dt2 : Nat → Nat → Int, w2 = (SH, dt2) ∧ InvC dt2 ∧ Fr [79, 83, 84] dt dt2 ∧ ((r = some (.inl 0) ∧ (RSX 1 b n i dt2 0 ((gLF (KF 1 b n) (VF b n) (dt 79 10)) i)) ∧ (dt2 79 2 = dt 79 2) ∧ (dt2 79 9 = dt 79 9) ∧ (dt2 79 10 = dt 79 10) ∧ (dt2 79 12 = dt 79 12)) ∨ (r = some (.inl 1) ∧ (RSX 1 b n i dt2 1 ((gLF (KF 1 b n) (VF b n) (dt 79 10)) i)) ∧ (dt 79 10 ≤ 15) ∧ (dt 79 11 ≤ dt2 79 11) ∧ (dt 79 15 + dt2 79 11 ≤ dt2 79 15 + dt 79 11) ∧ (dt 79 15 + 1 ≤ dt2 79 15) ∧ (dt2 79 15 ≤ 500) ∧ (dt2 79 2 = dt 79 2) ∧ (dt2 79 9 = dt 79 9) ∧ (dt2 79 10 = dt 79 10) ∧ (dt2 79 12 = dt 79 12) ∧ (dt2 79 17 = dt 79 17)))) := by
  have hF : Fr [79, 83, 84] dt dt := Fr_refl
  have r1 : 0 ≤ dt 79 15 ∧ dt 79 15 ≤ 500 := InvC_get hI 79 15 rfl rfl
  have r2 : 0 ≤ dt 79 11 ∧ dt 79 11 ≤ 510 := InvC_get hI 79 11 rfl rfl
  have r3 : 0 ≤ dt 79 10 ∧ dt 79 10 ≤ 24 := InvC_get hI 79 10 rfl rfl
  have cr0 := CUR_R hc (.inr rfl)
  have cb0 := CUR_b hc
  have cv0 := CUR_v hc
  have ck0 := KZ_lt (i := i) hz
  have c10 := hc.1
  have r4 : (-2147483648) ≤ dt 79 14 ∧ dt 79 14 ≤ 2147483647 := InvC_get hI 79 14 rfl rfl
  refine go_ifq PM173 (k := 3) (p1 := 24) (p2 := 9) (L' := [some (.inr (.inr (some 79))), none]) (st' := []) (w' := (SH, dt)) rfl (c_eq (a := dt 79 14) (b := 7) (by first | exact bnd r4 (by decide) (by decide) | exact ⟨by omega, by omega⟩) ⟨by decide, by decide⟩) (fun c5 => ?_) (fun c5 => ?_)
  · skip
    refine go_ifq PM173 (k := 3) (p1 := 39) (p2 := 33) (L' := [some (.inr (.inr (some 79))), none]) (st' := []) (w' := (SH, dt)) rfl (c_ne (a := dt 79 10) (b := 16) (by first | exact bnd r3 (by decide) (by decide) | exact ⟨by omega, by omega⟩) ⟨by decide, by decide⟩) (fun c6 => ?_) (fun c6 => ?_)
    · skip
      refine go_ifq PM173 (k := 3) (p1 := 52) (p2 := 48) (L' := [some (.inr (.inr (some 79))), none]) (st' := []) (w' := (SH, dt)) rfl (c_ne (a := dt 79 14) (b := 7) (by first | exact bnd r4 (by decide) (by decide) | exact ⟨by omega, by omega⟩) ⟨by decide, by decide⟩) (fun c7 => ?_) (fun c7 => ?_)
      · skip
        refine go_toq PM173 (k := 4) (pc' := 56) (L' := [some (.inr (.inr (some 79))), some (.inl 0)]) (st' := [.inl 0, .inr (.inr (some 79))]) (w' := (SH, dt)) rfl ?_
        have hI8 : InvC (u2 dt 79 20 0) := InvC_u2 hI (lo := 0) (hi := 8) rfl rfl rfl (by decide) (by decide)
        have hF9 : Fr [79, 83, 84] dt (u2 dt 79 20 0) := Fr_u2 hF (by decide)
        have w10 : (u2 dt 79 20 0) 79 2 = dt 79 2 := rfl
        have w11 : (u2 dt 79 20 0) 79 9 = dt 79 9 := rfl
        have w12 : (u2 dt 79 20 0) 79 10 = dt 79 10 := rfl
        have w13 : (u2 dt 79 20 0) 79 11 = dt 79 11 := rfl
        have w14 : (u2 dt 79 20 0) 79 12 = dt 79 12 := rfl
        have w15 : (u2 dt 79 20 0) 79 13 = dt 79 13 := rfl
        have w16 : (u2 dt 79 20 0) 79 14 = dt 79 14 := rfl
        have w17 : (u2 dt 79 20 0) 79 15 = dt 79 15 := rfl
        have w18 : (u2 dt 79 20 0) 79 16 = dt 79 16 := rfl
        have w19 : (u2 dt 79 20 0) 79 17 = dt 79 17 := rfl
        have w20 : (u2 dt 79 20 0) 79 18 = dt 79 18 := rfl
        have w21 : (u2 dt 79 20 0) 79 20 = 0 := rfl
        have hc22 : CUR 1 b n (u2 dt 79 20 0) i := CUR_sm hc rfl rfl rfl rfl
        refine go_smpq PM173 (L' := [some (.inr (.inr (some 79))), some (.inl 0)]) (st' := []) (w' := (SH, (u2 dt 79 20 0))) rfl rfl (s_pf rfl rfl rfl rfl ⟨by decide, by decide⟩) ?_
        refine go_toq PM173 (k := 1) (pc' := 60) (L' := [some (.inr (.inr (some 79))), some (.inl 0)]) (st' := [.inr (.inr (some 79))]) (w' := (SH, (u2 dt 79 20 0))) rfl ?_
        refine go_callq PM173 PM159 (Q' := _) rfl rfl rfl rfl (sp_X6_next0_p1 L xs sio (d + 30) (u2 dt 79 20 0) hI8   (by first | exact True.intro | rfl | omega | trivial) (by first | exact True.intro | rfl | omega | trivial)) ?_
        rintro _ _ ⟨dt24, rfl, hI25, hF26, h23⟩
        refine ⟨rfl, ?_⟩
        have hF27 : Fr [79, 83, 84] dt dt24 := Fr_tr hF9 hF26 (by decide)
        rcases h23 with ⟨rfl, h23⟩
        obtain ⟨h23_0, h23_1, h23_2, h23_3, h23_4, h23_5, h23_6, h23_7, h23_8⟩ := h23
        have hq28 := h23_0
        rw [show (u2 dt 79 20 0) 85 = dt 85 from funext (hF9 85 (by decide)), show (u2 dt 79 20 0) 79 12 = dt 79 12 by omega, hbb, show (dt 79 12).toNat = n by omega] at hq28
        have hc29 : CUR 1 b n dt24 (i + 1) := CUR_n hc22 hq28
        have hi30 : i + 1 ≤ t := by omega
        have av31 : (u2 dt 79 20 0) 79 15 + 1 ≤ (u2 dt 79 20 0) 79 13 := by omega
        have kk_ : KF 1 b n i = 1001 := by omega
        have hp32 : (gLF (KF 1 b n) (VF b n) (dt 79 10)) i = (gL1 (KF 1 b n) (VF b n)) (i + 1) := (rfl : (gLF (KF 1 b n) (VF b n) (dt 79 10)) i = (gLF (KF 1 b n) (VF b n) (dt 79 10)) i).trans (by show gLF _ _ _ _ = _; unfold gLF; rw [if_neg (by omega), if_neg (by omega)]; exact gLine_p (by omega))
        clear cr0 cb0 cv0 ck0
        have cr33 := CUR_R hc29 (.inr rfl)
        have cb34 := CUR_b hc29
        have cv35 := CUR_v hc29
        have ck36 := KZ_lt (i := (i + 1)) hz
        have c137 := (hc29).1
        have ci38 := hi30
        have r39 : 0 ≤ dt24 79 10 ∧ dt24 79 10 ≤ 24 := InvC_get hI25 79 10 rfl rfl
        refine go_toq PM173 (k := 9) (pc' := 86) (L' := [some (.inr (.inr (some 79))), some (.inl 0)]) (st' := [.inl 8, .inl (4 * (dt24 79 10)), .inr (.inr (some 83))]) (w' := (SH, dt24)) rfl ?_
        have hI40 : InvC (u2 dt24 83 ((4 * (dt24 79 10)).toNat) 8) := InvC_u2 hI25 (lo := -2147483648) (hi := 2147483647) rfl rfl rfl (by decide) (by decide)
        have hF41 : Fr [79, 83, 84] dt (u2 dt24 83 ((4 * (dt24 79 10)).toNat) 8) := Fr_u2 hF27 (by decide)
        have w42 : (u2 dt24 83 ((4 * (dt24 79 10)).toNat) 8) 79 2 = dt24 79 2 := rfl
        have w43 : (u2 dt24 83 ((4 * (dt24 79 10)).toNat) 8) 79 9 = dt24 79 9 := rfl
        have w44 : (u2 dt24 83 ((4 * (dt24 79 10)).toNat) 8) 79 10 = dt24 79 10 := rfl
        have w45 : (u2 dt24 83 ((4 * (dt24 79 10)).toNat) 8) 79 11 = dt24 79 11 := rfl
        have w46 : (u2 dt24 83 ((4 * (dt24 79 10)).toNat) 8) 79 12 = dt24 79 12 := rfl
        have w47 : (u2 dt24 83 ((4 * (dt24 79 10)).toNat) 8) 79 13 = dt24 79 13 := rfl
        have w48 : (u2 dt24 83 ((4 * (dt24 79 10)).toNat) 8) 79 14 = dt24 79 14 := rfl
        have w49 : (u2 dt24 83 ((4 * (dt24 79 10)).toNat) 8) 79 15 = dt24 79 15 := rfl
        have w50 : (u2 dt24 83 ((4 * (dt24 79 10)).toNat) 8) 79 16 = dt24 79 16 := rfl
        have w51 : (u2 dt24 83 ((4 * (dt24 79 10)).toNat) 8) 79 17 = dt24 79 17 := rfl
        have w52 : (u2 dt24 83 ((4 * (dt24 79 10)).toNat) 8) 79 18 = dt24 79 18 := rfl
        have w53 : (u2 dt24 83 ((4 * (dt24 79 10)).toNat) 8) 79 20 = dt24 79 20 := rfl
        have hc54 : CUR 1 b n (u2 dt24 83 ((4 * (dt24 79 10)).toNat) 8) (i + 1) := CUR_sm hc29 rfl rfl rfl rfl
        refine go_smpq PM173 (L' := [some (.inr (.inr (some 79))), some (.inl 0)]) (st' := []) (w' := (SH, (u2 dt24 83 ((4 * (dt24 79 10)).toNat) 8))) rfl rfl (s_iast (n := 64) rfl ⟨by omega, by omega⟩ ⟨by decide, by decide⟩) ?_
        have r55 : 0 ≤ dt24 79 11 ∧ dt24 79 11 ≤ 510 := InvC_get hI25 79 11 rfl rfl
        refine go_toq PM173 (k := 12) (pc' := 119) (L' := [some (.inr (.inr (some 79))), some (.inl 0)]) (st' := [.inl (dt24 79 11), .inl ((4 * (dt24 79 10)) + 1), .inr (.inr (some 83))]) (w' := (SH, (u2 dt24 83 ((4 * (dt24 79 10)).toNat) 8))) rfl ?_
        have hI56 : InvC (u2 (u2 dt24 83 ((4 * (dt24 79 10)).toNat) 8) 83 (((4 * (dt24 79 10)) + 1).toNat) (dt24 79 11)) := InvC_u2 hI40 (lo := -2147483648) (hi := 2147483647) rfl rfl rfl (by first | exact bnd1 r55 (by decide) | omega) (by first | exact bnd2 r55 (by decide) | omega)
        have hF57 : Fr [79, 83, 84] dt (u2 (u2 dt24 83 ((4 * (dt24 79 10)).toNat) 8) 83 (((4 * (dt24 79 10)) + 1).toNat) (dt24 79 11)) := Fr_u2 hF41 (by decide)
        have w58 : (u2 (u2 dt24 83 ((4 * (dt24 79 10)).toNat) 8) 83 (((4 * (dt24 79 10)) + 1).toNat) (dt24 79 11)) 79 2 = (u2 dt24 83 ((4 * (dt24 79 10)).toNat) 8) 79 2 := rfl
        have w59 : (u2 (u2 dt24 83 ((4 * (dt24 79 10)).toNat) 8) 83 (((4 * (dt24 79 10)) + 1).toNat) (dt24 79 11)) 79 9 = (u2 dt24 83 ((4 * (dt24 79 10)).toNat) 8) 79 9 := rfl
        have w60 : (u2 (u2 dt24 83 ((4 * (dt24 79 10)).toNat) 8) 83 (((4 * (dt24 79 10)) + 1).toNat) (dt24 79 11)) 79 10 = (u2 dt24 83 ((4 * (dt24 79 10)).toNat) 8) 79 10 := rfl
        have w61 : (u2 (u2 dt24 83 ((4 * (dt24 79 10)).toNat) 8) 83 (((4 * (dt24 79 10)) + 1).toNat) (dt24 79 11)) 79 11 = (u2 dt24 83 ((4 * (dt24 79 10)).toNat) 8) 79 11 := rfl
        have w62 : (u2 (u2 dt24 83 ((4 * (dt24 79 10)).toNat) 8) 83 (((4 * (dt24 79 10)) + 1).toNat) (dt24 79 11)) 79 12 = (u2 dt24 83 ((4 * (dt24 79 10)).toNat) 8) 79 12 := rfl
        have w63 : (u2 (u2 dt24 83 ((4 * (dt24 79 10)).toNat) 8) 83 (((4 * (dt24 79 10)) + 1).toNat) (dt24 79 11)) 79 13 = (u2 dt24 83 ((4 * (dt24 79 10)).toNat) 8) 79 13 := rfl
        have w64 : (u2 (u2 dt24 83 ((4 * (dt24 79 10)).toNat) 8) 83 (((4 * (dt24 79 10)) + 1).toNat) (dt24 79 11)) 79 14 = (u2 dt24 83 ((4 * (dt24 79 10)).toNat) 8) 79 14 := rfl
        have w65 : (u2 (u2 dt24 83 ((4 * (dt24 79 10)).toNat) 8) 83 (((4 * (dt24 79 10)) + 1).toNat) (dt24 79 11)) 79 15 = (u2 dt24 83 ((4 * (dt24 79 10)).toNat) 8) 79 15 := rfl
        have w66 : (u2 (u2 dt24 83 ((4 * (dt24 79 10)).toNat) 8) 83 (((4 * (dt24 79 10)) + 1).toNat) (dt24 79 11)) 79 16 = (u2 dt24 83 ((4 * (dt24 79 10)).toNat) 8) 79 16 := rfl
        have w67 : (u2 (u2 dt24 83 ((4 * (dt24 79 10)).toNat) 8) 83 (((4 * (dt24 79 10)) + 1).toNat) (dt24 79 11)) 79 17 = (u2 dt24 83 ((4 * (dt24 79 10)).toNat) 8) 79 17 := rfl
        have w68 : (u2 (u2 dt24 83 ((4 * (dt24 79 10)).toNat) 8) 83 (((4 * (dt24 79 10)) + 1).toNat) (dt24 79 11)) 79 18 = (u2 dt24 83 ((4 * (dt24 79 10)).toNat) 8) 79 18 := rfl
        have w69 : (u2 (u2 dt24 83 ((4 * (dt24 79 10)).toNat) 8) 83 (((4 * (dt24 79 10)) + 1).toNat) (dt24 79 11)) 79 20 = (u2 dt24 83 ((4 * (dt24 79 10)).toNat) 8) 79 20 := rfl
        have hc70 : CUR 1 b n (u2 (u2 dt24 83 ((4 * (dt24 79 10)).toNat) 8) 83 (((4 * (dt24 79 10)) + 1).toNat) (dt24 79 11)) (i + 1) := CUR_sm hc54 rfl rfl rfl rfl
        refine go_smpq PM173 (L' := [some (.inr (.inr (some 79))), some (.inl 0)]) (st' := []) (w' := (SH, (u2 (u2 dt24 83 ((4 * (dt24 79 10)).toNat) 8) 83 (((4 * (dt24 79 10)) + 1).toNat) (dt24 79 11)))) rfl rfl (s_iast (n := 64) rfl ⟨by omega, by omega⟩ (by first | exact bnd r55 (by decide) (by decide) | exact ⟨by omega, by omega⟩)) ?_
        refine go_toq PM173 (k := 1) (pc' := 121) (L' := [some (.inr (.inr (some 79))), some (.inl 0)]) (st' := [.inr (.inr (some 79))]) (w' := (SH, (u2 (u2 dt24 83 ((4 * (dt24 79 10)).toNat) 8) 83 (((4 * (dt24 79 10)) + 1).toNat) (dt24 79 11)))) rfl ?_
        refine go_callq PM173 PM165 (Q' := _) rfl rfl rfl rfl (sp_X6_sumUp_g L xs sio (d + 27) (u2 (u2 dt24 83 ((4 * (dt24 79 10)).toNat) 8) 83 (((4 * (dt24 79 10)) + 1).toNat) (dt24 79 11)) hI56 b n t (i + 1) (by first | exact hbb | (rw [show (u2 (u2 dt24 83 ((4 * (dt24 79 10)).toNat) 8) 83 (((4 * (dt24 79 10)) + 1).toNat) (dt24 79 11)) 85 = dt 85 from funext (hF57 85 (by decide)), show (u2 (u2 dt24 83 ((4 * (dt24 79 10)).toNat) 8) 83 (((4 * (dt24 79 10)) + 1).toNat) (dt24 79 11)) 79 12 = dt 79 12 by omega]; exact hbb)) (by omega) hz ht hc70 hi30 hn5  (by first | exact True.intro | rfl | omega | trivial) (by first | exact True.intro | rfl | omega | trivial)) ?_
        rintro _ _ ⟨dt72, rfl, hI73, hF74, h71⟩
        refine ⟨rfl, ?_⟩
        have hF75 : Fr [79, 83, 84] dt dt72 := Fr_tr hF57 hF74 (by decide)
        rcases h71 with ⟨rfl, h71⟩ | ⟨rfl, h71⟩
        · skip
          obtain ⟨h71_0, h71_1, h71_2, h71_3, h71_4⟩ := h71
          have fl76 := RSX_0 h71_0 rfl
          have fe77 : (gLF (KF 1 b n) (VF b n) (dt 79 10)) i = (gE (KF 1 b n) (VF b n)) (i + 1) := hp32.trans ((show (gL1 (KF 1 b n) (VF b n)) (i + 1) = gB ((gE (KF 1 b n) (VF b n)) (i + 1)) (gL2 (KF 1 b n) (VF b n)) by rfl).trans (gB_no fl76.1))
          refine go_retq PM173 (k := 2) (r := some (.inl 0)) (w1 := (SH, dt72)) rfl ?_
          exact ⟨dt72, rfl, hI73, hF75, (Or.inl ⟨rfl, ⟨by exact RSX_f fe77 fl76 (by omega) (by omega), by first | exact True.intro | rfl | omega | trivial, by first | exact True.intro | rfl | omega | trivial, by first | exact True.intro | rfl | omega | trivial, by first | exact True.intro | rfl | omega | trivial⟩⟩)⟩
        · skip
          obtain ⟨h71_0, h71_1, h71_2, h71_3, h71_4, h71_5, h71_6, h71_7, h71_8, h71_9⟩ := h71
          obtain ⟨j78, ej79, hc80⟩ := RSX_1 h71_0 (by decide)
          have hp81 : (gLF (KF 1 b n) (VF b n) (dt 79 10)) i = (gL2 (KF 1 b n) (VF b n)) j78 := hp32.trans ((show (gL1 (KF 1 b n) (VF b n)) (i + 1) = gB ((gE (KF 1 b n) (VF b n)) (i + 1)) (gL2 (KF 1 b n) (VF b n)) by rfl).trans (by rw [ej79]; exact gB_0))
          have hi82 : j78 ≤ t := by have z := gE_M (K := (KF 1 b n)) (V := (VF b n)) (i := (i + 1)) hz; rw [ej79] at z; have y := z rfl; simp only at y; omega
          clear cr33 cb34 cv35 ck36
          have cr83 := CUR_R hc80 (.inr rfl)
          have cb84 := CUR_b hc80
          have cv85 := CUR_v hc80
          have ck86 := KZ_lt (i := j78) hz
          have c187 := (hc80).1
          have ci88 := hi82
          have r89 : 0 ≤ dt72 79 10 ∧ dt72 79 10 ≤ 24 := InvC_get hI73 79 10 rfl rfl
          have r90 : 0 ≤ dt72 79 11 ∧ dt72 79 11 ≤ 510 := InvC_get hI73 79 11 rfl rfl
          refine go_toq PM173 (k := 11) (pc' := 145) (L' := [some (.inr (.inr (some 79))), some (.inl 0)]) (st' := [.inl (dt72 79 11), .inl ((4 * (dt72 79 10)) + 2), .inr (.inr (some 83))]) (w' := (SH, dt72)) rfl ?_
          have hI91 : InvC (u2 dt72 83 (((4 * (dt72 79 10)) + 2).toNat) (dt72 79 11)) := InvC_u2 hI73 (lo := -2147483648) (hi := 2147483647) rfl rfl rfl (by first | exact bnd1 r90 (by decide) | omega) (by first | exact bnd2 r90 (by decide) | omega)
          have hF92 : Fr [79, 83, 84] dt (u2 dt72 83 (((4 * (dt72 79 10)) + 2).toNat) (dt72 79 11)) := Fr_u2 hF75 (by decide)
          have w93 : (u2 dt72 83 (((4 * (dt72 79 10)) + 2).toNat) (dt72 79 11)) 79 2 = dt72 79 2 := rfl
          have w94 : (u2 dt72 83 (((4 * (dt72 79 10)) + 2).toNat) (dt72 79 11)) 79 9 = dt72 79 9 := rfl
          have w95 : (u2 dt72 83 (((4 * (dt72 79 10)) + 2).toNat) (dt72 79 11)) 79 10 = dt72 79 10 := rfl
          have w96 : (u2 dt72 83 (((4 * (dt72 79 10)) + 2).toNat) (dt72 79 11)) 79 11 = dt72 79 11 := rfl
          have w97 : (u2 dt72 83 (((4 * (dt72 79 10)) + 2).toNat) (dt72 79 11)) 79 12 = dt72 79 12 := rfl
          have w98 : (u2 dt72 83 (((4 * (dt72 79 10)) + 2).toNat) (dt72 79 11)) 79 13 = dt72 79 13 := rfl
          have w99 : (u2 dt72 83 (((4 * (dt72 79 10)) + 2).toNat) (dt72 79 11)) 79 14 = dt72 79 14 := rfl
          have w100 : (u2 dt72 83 (((4 * (dt72 79 10)) + 2).toNat) (dt72 79 11)) 79 15 = dt72 79 15 := rfl
          have w101 : (u2 dt72 83 (((4 * (dt72 79 10)) + 2).toNat) (dt72 79 11)) 79 16 = dt72 79 16 := rfl
          have w102 : (u2 dt72 83 (((4 * (dt72 79 10)) + 2).toNat) (dt72 79 11)) 79 17 = dt72 79 17 := rfl
          have w103 : (u2 dt72 83 (((4 * (dt72 79 10)) + 2).toNat) (dt72 79 11)) 79 18 = dt72 79 18 := rfl
          have w104 : (u2 dt72 83 (((4 * (dt72 79 10)) + 2).toNat) (dt72 79 11)) 79 20 = dt72 79 20 := rfl
          have hc105 : CUR 1 b n (u2 dt72 83 (((4 * (dt72 79 10)) + 2).toNat) (dt72 79 11)) j78 := CUR_sm hc80 rfl rfl rfl rfl
          refine go_smpq PM173 (L' := [some (.inr (.inr (some 79))), some (.inl 0)]) (st' := []) (w' := (SH, (u2 dt72 83 (((4 * (dt72 79 10)) + 2).toNat) (dt72 79 11)))) rfl rfl (s_iast (n := 64) rfl ⟨by omega, by omega⟩ (by first | exact bnd r90 (by decide) (by decide) | exact ⟨by omega, by omega⟩)) ?_
          have r106 : (-2147483648) ≤ dt72 79 14 ∧ dt72 79 14 ≤ 2147483647 := InvC_get hI73 79 14 rfl rfl
          refine go_ifq PM173 (k := 3) (p1 := 167) (p2 := 154) (L' := [some (.inr (.inr (some 79))), some (.inl 0)]) (st' := []) (w' := (SH, (u2 dt72 83 (((4 * (dt72 79 10)) + 2).toNat) (dt72 79 11)))) rfl (c_ne (a := dt72 79 14) (b := 3) (by first | exact bnd r106 (by decide) (by decide) | exact ⟨by omega, by omega⟩) ⟨by decide, by decide⟩) (fun c107 => ?_) (fun c107 => ?_)
          · skip
            refine go_toq PM173 (k := 10) (pc' := 183) (L' := [some (.inr (.inr (some 79))), some (.inl 0)]) (st' := [.inl (dt72 79 11), .inl ((4 * (dt72 79 10)) + 3), .inr (.inr (some 83))]) (w' := (SH, (u2 dt72 83 (((4 * (dt72 79 10)) + 2).toNat) (dt72 79 11)))) rfl ?_
            have hI108 : InvC (u2 (u2 dt72 83 (((4 * (dt72 79 10)) + 2).toNat) (dt72 79 11)) 83 (((4 * (dt72 79 10)) + 3).toNat) (dt72 79 11)) := InvC_u2 hI91 (lo := -2147483648) (hi := 2147483647) rfl rfl rfl (by first | exact bnd1 r90 (by decide) | omega) (by first | exact bnd2 r90 (by decide) | omega)
            have hF109 : Fr [79, 83, 84] dt (u2 (u2 dt72 83 (((4 * (dt72 79 10)) + 2).toNat) (dt72 79 11)) 83 (((4 * (dt72 79 10)) + 3).toNat) (dt72 79 11)) := Fr_u2 hF92 (by decide)
            have w110 : (u2 (u2 dt72 83 (((4 * (dt72 79 10)) + 2).toNat) (dt72 79 11)) 83 (((4 * (dt72 79 10)) + 3).toNat) (dt72 79 11)) 79 2 = (u2 dt72 83 (((4 * (dt72 79 10)) + 2).toNat) (dt72 79 11)) 79 2 := rfl
            have w111 : (u2 (u2 dt72 83 (((4 * (dt72 79 10)) + 2).toNat) (dt72 79 11)) 83 (((4 * (dt72 79 10)) + 3).toNat) (dt72 79 11)) 79 9 = (u2 dt72 83 (((4 * (dt72 79 10)) + 2).toNat) (dt72 79 11)) 79 9 := rfl
            have w112 : (u2 (u2 dt72 83 (((4 * (dt72 79 10)) + 2).toNat) (dt72 79 11)) 83 (((4 * (dt72 79 10)) + 3).toNat) (dt72 79 11)) 79 10 = (u2 dt72 83 (((4 * (dt72 79 10)) + 2).toNat) (dt72 79 11)) 79 10 := rfl
            have w113 : (u2 (u2 dt72 83 (((4 * (dt72 79 10)) + 2).toNat) (dt72 79 11)) 83 (((4 * (dt72 79 10)) + 3).toNat) (dt72 79 11)) 79 11 = (u2 dt72 83 (((4 * (dt72 79 10)) + 2).toNat) (dt72 79 11)) 79 11 := rfl
            have w114 : (u2 (u2 dt72 83 (((4 * (dt72 79 10)) + 2).toNat) (dt72 79 11)) 83 (((4 * (dt72 79 10)) + 3).toNat) (dt72 79 11)) 79 12 = (u2 dt72 83 (((4 * (dt72 79 10)) + 2).toNat) (dt72 79 11)) 79 12 := rfl
            have w115 : (u2 (u2 dt72 83 (((4 * (dt72 79 10)) + 2).toNat) (dt72 79 11)) 83 (((4 * (dt72 79 10)) + 3).toNat) (dt72 79 11)) 79 13 = (u2 dt72 83 (((4 * (dt72 79 10)) + 2).toNat) (dt72 79 11)) 79 13 := rfl
            have w116 : (u2 (u2 dt72 83 (((4 * (dt72 79 10)) + 2).toNat) (dt72 79 11)) 83 (((4 * (dt72 79 10)) + 3).toNat) (dt72 79 11)) 79 14 = (u2 dt72 83 (((4 * (dt72 79 10)) + 2).toNat) (dt72 79 11)) 79 14 := rfl
            have w117 : (u2 (u2 dt72 83 (((4 * (dt72 79 10)) + 2).toNat) (dt72 79 11)) 83 (((4 * (dt72 79 10)) + 3).toNat) (dt72 79 11)) 79 15 = (u2 dt72 83 (((4 * (dt72 79 10)) + 2).toNat) (dt72 79 11)) 79 15 := rfl
            have w118 : (u2 (u2 dt72 83 (((4 * (dt72 79 10)) + 2).toNat) (dt72 79 11)) 83 (((4 * (dt72 79 10)) + 3).toNat) (dt72 79 11)) 79 16 = (u2 dt72 83 (((4 * (dt72 79 10)) + 2).toNat) (dt72 79 11)) 79 16 := rfl
            have w119 : (u2 (u2 dt72 83 (((4 * (dt72 79 10)) + 2).toNat) (dt72 79 11)) 83 (((4 * (dt72 79 10)) + 3).toNat) (dt72 79 11)) 79 17 = (u2 dt72 83 (((4 * (dt72 79 10)) + 2).toNat) (dt72 79 11)) 79 17 := rfl
            have w120 : (u2 (u2 dt72 83 (((4 * (dt72 79 10)) + 2).toNat) (dt72 79 11)) 83 (((4 * (dt72 79 10)) + 3).toNat) (dt72 79 11)) 79 18 = (u2 dt72 83 (((4 * (dt72 79 10)) + 2).toNat) (dt72 79 11)) 79 18 := rfl
            have w121 : (u2 (u2 dt72 83 (((4 * (dt72 79 10)) + 2).toNat) (dt72 79 11)) 83 (((4 * (dt72 79 10)) + 3).toNat) (dt72 79 11)) 79 20 = (u2 dt72 83 (((4 * (dt72 79 10)) + 2).toNat) (dt72 79 11)) 79 20 := rfl
            have hc122 : CUR 1 b n (u2 (u2 dt72 83 (((4 * (dt72 79 10)) + 2).toNat) (dt72 79 11)) 83 (((4 * (dt72 79 10)) + 3).toNat) (dt72 79 11)) j78 := CUR_sm hc105 rfl rfl rfl rfl
            refine go_smpq PM173 (L' := [some (.inr (.inr (some 79))), some (.inl 0)]) (st' := []) (w' := (SH, (u2 (u2 dt72 83 (((4 * (dt72 79 10)) + 2).toNat) (dt72 79 11)) 83 (((4 * (dt72 79 10)) + 3).toNat) (dt72 79 11)))) rfl rfl (s_iast (n := 64) rfl ⟨by omega, by omega⟩ (by first | exact bnd r90 (by decide) (by decide) | exact ⟨by omega, by omega⟩)) ?_
            refine go_toq PM173 (k := 2) (pc' := 188) (L' := [some (.inr (.inr (some 79))), some (.inl 0)]) (st' := [.inl 159, .inr (.inr (some 79))]) (w' := (SH, (u2 (u2 dt72 83 (((4 * (dt72 79 10)) + 2).toNat) (dt72 79 11)) 83 (((4 * (dt72 79 10)) + 3).toNat) (dt72 79 11)))) rfl ?_
            refine go_callq PM173 PM161 (Q' := _) rfl rfl rfl rfl (sp_X6_need0_g1 L xs sio (d + 29) (u2 (u2 dt72 83 (((4 * (dt72 79 10)) + 2).toNat) (dt72 79 11)) 83 (((4 * (dt72 79 10)) + 3).toNat) (dt72 79 11)) hI108 b n t j78 (by first | exact hbb | (rw [show (u2 (u2 dt72 83 (((4 * (dt72 79 10)) + 2).toNat) (dt72 79 11)) 83 (((4 * (dt72 79 10)) + 3).toNat) (dt72 79 11)) 85 = dt 85 from funext (hF109 85 (by decide)), show (u2 (u2 dt72 83 (((4 * (dt72 79 10)) + 2).toNat) (dt72 79 11)) 83 (((4 * (dt72 79 10)) + 3).toNat) (dt72 79 11)) 79 12 = dt 79 12 by omega]; exact hbb)) (by omega) hz ht hc122 hi82 hn5 159 ⟨by decide, by decide⟩ (by first | exact True.intro | rfl | omega | trivial)) ?_
            rintro _ _ ⟨dt124, rfl, hI125, hF126, h123⟩
            refine ⟨rfl, ?_⟩
            have hF127 : Fr [79, 83, 84] dt dt124 := Fr_tr hF109 hF126 (by decide)
            rcases h123 with ⟨rfl, h123⟩ | ⟨rfl, h123⟩
            · skip
              obtain ⟨h123_0, h123_1, h123_2, h123_3, h123_4⟩ := h123
              have fl128 := RSX_0 h123_0 rfl
              have fe129 : (gLF (KF 1 b n) (VF b n) (dt 79 10)) i = (gK (KF 1 b n) (159 - 100)) j78 := hp81.trans ((show (gL2 (KF 1 b n) (VF b n)) j78 = gB ((gK (KF 1 b n) (159 - 100)) j78) gOk by first | exact gB_id.symm | exact gL2_n (by omega)).trans (gB_no fl128.1))
              refine go_retq PM173 (k := 0) (r := some (.inl 0)) (w1 := (SH, dt124)) rfl ?_
              exact ⟨dt124, rfl, hI125, hF127, (Or.inl ⟨rfl, ⟨by exact RSX_f fe129 fl128 (by omega) (by omega), by first | exact True.intro | rfl | omega | trivial, by first | exact True.intro | rfl | omega | trivial, by first | exact True.intro | rfl | omega | trivial, by first | exact True.intro | rfl | omega | trivial⟩⟩)⟩
            · skip
              obtain ⟨h123_0, h123_1, h123_2, h123_3, h123_4, h123_5, h123_6, h123_7, h123_8, h123_9⟩ := h123
              obtain ⟨j130, ej131, hc132⟩ := RSX_1 h123_0 (by decide)
              have hp133 : (gLF (KF 1 b n) (VF b n) (dt 79 10)) i = gOk j130 := hp81.trans ((show (gL2 (KF 1 b n) (VF b n)) j78 = gB ((gK (KF 1 b n) (159 - 100)) j78) gOk by first | exact gB_id.symm | exact gL2_n (by omega)).trans (by rw [ej131]; exact gB_0))
              have hi134 : j130 ≤ t := by have z := (fun (h : KZ (KF 1 b n) t) => gK_M (K := (KF 1 b n)) (k := 159 - 100) (i := j78) h (by decide)) hz; rw [ej131] at z; have y := z rfl; simp only at y; omega
              clear cr83 cb84 cv85 ck86
              have cr135 := CUR_R hc132 (.inr rfl)
              have cb136 := CUR_b hc132
              have cv137 := CUR_v hc132
              have ck138 := KZ_lt (i := j130) hz
              have c1139 := (hc132).1
              have ci140 := hi134
              refine go_retq PM173 (k := 0) (r := some (.inl 1)) (w1 := (SH, dt124)) rfl ?_
              exact ⟨dt124, rfl, hI125, hF127, (Or.inr ⟨rfl, ⟨by exact RSX_ok (hp133.trans (by rfl)) hc132, by first | exact True.intro | rfl | omega | trivial, by first | exact True.intro | rfl | omega | trivial, by first | exact True.intro | rfl | omega | trivial, by first | exact True.intro | rfl | omega | trivial, by exact (InvC_get (by assumption) 79 15 rfl rfl).2, by first | exact True.intro | rfl | omega | trivial, by first | exact True.intro | rfl | omega | trivial, by first | exact True.intro | rfl | omega | trivial, by first | exact True.intro | rfl | omega | trivial, by first | exact True.intro | rfl | omega | trivial⟩⟩)⟩
          · skip
            refine go_toq PM173 (k := 1) (pc' := 155) (L' := [some (.inr (.inr (some 79))), some (.inl 0)]) (st' := [.inr (.inr (some 79))]) (w' := (SH, (u2 dt72 83 (((4 * (dt72 79 10)) + 2).toNat) (dt72 79 11)))) rfl ?_
            refine go_callq PM173 PM159 (Q' := _) rfl rfl rfl rfl (sp_X6_next0_p1 L xs sio (d + 30) (u2 dt72 83 (((4 * (dt72 79 10)) + 2).toNat) (dt72 79 11)) hI91   (by first | exact True.intro | rfl | omega | trivial) (by first | exact True.intro | rfl | omega | trivial)) ?_
            rintro _ _ ⟨dt142, rfl, hI143, hF144, h141⟩
            refine ⟨rfl, ?_⟩
            have hF145 : Fr [79, 83, 84] dt dt142 := Fr_tr hF92 hF144 (by decide)
            rcases h141 with ⟨rfl, h141⟩
            obtain ⟨h141_0, h141_1, h141_2, h141_3, h141_4, h141_5, h141_6, h141_7, h141_8⟩ := h141
            have hq146 := h141_0
            rw [show (u2 dt72 83 (((4 * (dt72 79 10)) + 2).toNat) (dt72 79 11)) 85 = dt 85 from funext (hF92 85 (by decide)), show (u2 dt72 83 (((4 * (dt72 79 10)) + 2).toNat) (dt72 79 11)) 79 12 = dt 79 12 by omega, hbb, show (dt 79 12).toNat = n by omega] at hq146
            have hc147 : CUR 1 b n dt142 (j78 + 1) := CUR_n hc105 hq146
            have hi148 : j78 + 1 ≤ t := by omega
            have av149 : (u2 dt72 83 (((4 * (dt72 79 10)) + 2).toNat) (dt72 79 11)) 79 15 + 1 ≤ (u2 dt72 83 (((4 * (dt72 79 10)) + 2).toNat) (dt72 79 11)) 79 13 := by omega
            have hp150 : (gLF (KF 1 b n) (VF b n) (dt 79 10)) i = (fun i => gB (gB_ (KF 1 b n) (VF b n) 8 i) (gK (KF 1 b n) 59)) (j78 + 1) := hp81.trans (by exact gL2_w (by omega))
            clear cr83 cb84 cv85 ck86
            have cr151 := CUR_R hc147 (.inr rfl)
            have cb152 := CUR_b hc147
            have cv153 := CUR_v hc147
            have ck154 := KZ_lt (i := (j78 + 1)) hz
            have c1155 := (hc147).1
            have ci156 := hi148
            refine go_toq PM173 (k := 1) (pc' := 159) (L' := [some (.inr (.inr (some 79))), some (.inl 0)]) (st' := [.inr (.inr (some 79))]) (w' := (SH, dt142)) rfl ?_
            refine go_callq PM173 PM168 (Q' := _) rfl rfl rfl rfl (sp_X6_any_g0 L xs sio (d + 0) dt142 hI143 b n t (j78 + 1) (by first | exact hbb | (rw [show dt142 85 = dt 85 from funext (hF145 85 (by decide)), show dt142 79 12 = dt 79 12 by omega]; exact hbb)) (by omega) hz ht hc147 hi148 hn5  (by first | exact True.intro | rfl | omega | trivial) (by first | exact True.intro | rfl | omega | trivial) (by first | exact True.intro | rfl | omega | trivial)) ?_
            rintro _ _ ⟨dt158, rfl, hI159, hF160, h157⟩
            refine ⟨rfl, ?_⟩
            have hF161 : Fr [79, 83, 84] dt dt158 := Fr_tr hF145 hF160 (by decide)
            rcases h157 with ⟨rfl, h157⟩ | ⟨rfl, h157⟩
            · skip
              obtain ⟨h157_0, h157_1, h157_2, h157_3, h157_4⟩ := h157
              have fl162 := RSX_0 h157_0 rfl
              have fe163 : (gLF (KF 1 b n) (VF b n) (dt 79 10)) i = (gB_ (KF 1 b n) (VF b n) 8) (j78 + 1) := hp150.trans ((show (fun i => gB (gB_ (KF 1 b n) (VF b n) 8 i) (gK (KF 1 b n) 59)) (j78 + 1) = gB ((gB_ (KF 1 b n) (VF b n) 8) (j78 + 1)) (gK (KF 1 b n) 59) by rfl).trans (gB_no fl162.1))
              refine go_retq PM173 (k := 2) (r := some (.inl 0)) (w1 := (SH, dt158)) rfl ?_
              exact ⟨dt158, rfl, hI159, hF161, (Or.inl ⟨rfl, ⟨by exact RSX_f fe163 fl162 (by omega) (by omega), by first | exact True.intro | rfl | omega | trivial, by first | exact True.intro | rfl | omega | trivial, by first | exact True.intro | rfl | omega | trivial, by first | exact True.intro | rfl | omega | trivial⟩⟩)⟩
            · skip
              obtain ⟨h157_0, h157_1, h157_2, h157_3, h157_4, h157_5, h157_6, h157_7, h157_8, h157_9⟩ := h157
              obtain ⟨j164, ej165, hc166⟩ := RSX_1 h157_0 (by decide)
              have hp167 : (gLF (KF 1 b n) (VF b n) (dt 79 10)) i = (gK (KF 1 b n) 59) j164 := hp150.trans ((show (fun i => gB (gB_ (KF 1 b n) (VF b n) 8 i) (gK (KF 1 b n) 59)) (j78 + 1) = gB ((gB_ (KF 1 b n) (VF b n) 8) (j78 + 1)) (gK (KF 1 b n) 59) by rfl).trans (by rw [ej165]; exact gB_0))
              have hi168 : j164 ≤ t := by have z := gB__M (K := (KF 1 b n)) (V := (VF b n)) (d := 8) (i := (j78 + 1)) hz; rw [ej165] at z; have y := z rfl; simp only at y; omega
              clear cr151 cb152 cv153 ck154
              have cr169 := CUR_R hc166 (.inr rfl)
              have cb170 := CUR_b hc166
              have cv171 := CUR_v hc166
              have ck172 := KZ_lt (i := j164) hz
              have c1173 := (hc166).1
              have ci174 := hi168
              have r175 : 0 ≤ dt158 79 10 ∧ dt158 79 10 ≤ 24 := InvC_get hI159 79 10 rfl rfl
              have r176 : 0 ≤ dt158 79 11 ∧ dt158 79 11 ≤ 510 := InvC_get hI159 79 11 rfl rfl
              refine go_toq PM173 (k := 11) (pc' := 183) (L' := [some (.inr (.inr (some 79))), some (.inl 0)]) (st' := [.inl (dt158 79 11), .inl ((4 * (dt158 79 10)) + 3), .inr (.inr (some 83))]) (w' := (SH, dt158)) rfl ?_
              have hI177 : InvC (u2 dt158 83 (((4 * (dt158 79 10)) + 3).toNat) (dt158 79 11)) := InvC_u2 hI159 (lo := -2147483648) (hi := 2147483647) rfl rfl rfl (by first | exact bnd1 r176 (by decide) | omega) (by first | exact bnd2 r176 (by decide) | omega)
              have hF178 : Fr [79, 83, 84] dt (u2 dt158 83 (((4 * (dt158 79 10)) + 3).toNat) (dt158 79 11)) := Fr_u2 hF161 (by decide)
              have w179 : (u2 dt158 83 (((4 * (dt158 79 10)) + 3).toNat) (dt158 79 11)) 79 2 = dt158 79 2 := rfl
              have w180 : (u2 dt158 83 (((4 * (dt158 79 10)) + 3).toNat) (dt158 79 11)) 79 9 = dt158 79 9 := rfl
              have w181 : (u2 dt158 83 (((4 * (dt158 79 10)) + 3).toNat) (dt158 79 11)) 79 10 = dt158 79 10 := rfl
              have w182 : (u2 dt158 83 (((4 * (dt158 79 10)) + 3).toNat) (dt158 79 11)) 79 11 = dt158 79 11 := rfl
              have w183 : (u2 dt158 83 (((4 * (dt158 79 10)) + 3).toNat) (dt158 79 11)) 79 12 = dt158 79 12 := rfl
              have w184 : (u2 dt158 83 (((4 * (dt158 79 10)) + 3).toNat) (dt158 79 11)) 79 13 = dt158 79 13 := rfl
              have w185 : (u2 dt158 83 (((4 * (dt158 79 10)) + 3).toNat) (dt158 79 11)) 79 14 = dt158 79 14 := rfl
              have w186 : (u2 dt158 83 (((4 * (dt158 79 10)) + 3).toNat) (dt158 79 11)) 79 15 = dt158 79 15 := rfl
              have w187 : (u2 dt158 83 (((4 * (dt158 79 10)) + 3).toNat) (dt158 79 11)) 79 16 = dt158 79 16 := rfl
              have w188 : (u2 dt158 83 (((4 * (dt158 79 10)) + 3).toNat) (dt158 79 11)) 79 17 = dt158 79 17 := rfl
              have w189 : (u2 dt158 83 (((4 * (dt158 79 10)) + 3).toNat) (dt158 79 11)) 79 18 = dt158 79 18 := rfl
              have w190 : (u2 dt158 83 (((4 * (dt158 79 10)) + 3).toNat) (dt158 79 11)) 79 20 = dt158 79 20 := rfl
              have hc191 : CUR 1 b n (u2 dt158 83 (((4 * (dt158 79 10)) + 3).toNat) (dt158 79 11)) j164 := CUR_sm hc166 rfl rfl rfl rfl
              refine go_smpq PM173 (L' := [some (.inr (.inr (some 79))), some (.inl 0)]) (st' := []) (w' := (SH, (u2 dt158 83 (((4 * (dt158 79 10)) + 3).toNat) (dt158 79 11)))) rfl rfl (s_iast (n := 64) rfl ⟨by omega, by omega⟩ (by first | exact bnd r176 (by decide) (by decide) | exact ⟨by omega, by omega⟩)) ?_
              refine go_toq PM173 (k := 2) (pc' := 188) (L' := [some (.inr (.inr (some 79))), some (.inl 0)]) (st' := [.inl 159, .inr (.inr (some 79))]) (w' := (SH, (u2 dt158 83 (((4 * (dt158 79 10)) + 3).toNat) (dt158 79 11)))) rfl ?_
              refine go_callq PM173 PM161 (Q' := _) rfl rfl rfl rfl (sp_X6_need0_g1 L xs sio (d + 29) (u2 dt158 83 (((4 * (dt158 79 10)) + 3).toNat) (dt158 79 11)) hI177 b n t j164 (by first | exact hbb | (rw [show (u2 dt158 83 (((4 * (dt158 79 10)) + 3).toNat) (dt158 79 11)) 85 = dt 85 from funext (hF178 85 (by decide)), show (u2 dt158 83 (((4 * (dt158 79 10)) + 3).toNat) (dt158 79 11)) 79 12 = dt 79 12 by omega]; exact hbb)) (by omega) hz ht hc191 hi168 hn5 159 ⟨by decide, by decide⟩ (by first | exact True.intro | rfl | omega | trivial)) ?_
              rintro _ _ ⟨dt193, rfl, hI194, hF195, h192⟩
              refine ⟨rfl, ?_⟩
              have hF196 : Fr [79, 83, 84] dt dt193 := Fr_tr hF178 hF195 (by decide)
              rcases h192 with ⟨rfl, h192⟩ | ⟨rfl, h192⟩
              · skip
                obtain ⟨h192_0, h192_1, h192_2, h192_3, h192_4⟩ := h192
                have fl197 := RSX_0 h192_0 rfl
                have fe198 : (gLF (KF 1 b n) (VF b n) (dt 79 10)) i = (gK (KF 1 b n) (159 - 100)) j164 := hp167.trans ((show (gK (KF 1 b n) 59) j164 = gB ((gK (KF 1 b n) (159 - 100)) j164) gOk by first | exact gB_id.symm | exact gL2_n (by omega)).trans (gB_no fl197.1))
                refine go_retq PM173 (k := 0) (r := some (.inl 0)) (w1 := (SH, dt193)) rfl ?_
                exact ⟨dt193, rfl, hI194, hF196, (Or.inl ⟨rfl, ⟨by exact RSX_f fe198 fl197 (by omega) (by omega), by first | exact True.intro | rfl | omega | trivial, by first | exact True.intro | rfl | omega | trivial, by first | exact True.intro | rfl | omega | trivial, by first | exact True.intro | rfl | omega | trivial⟩⟩)⟩
              · skip
                obtain ⟨h192_0, h192_1, h192_2, h192_3, h192_4, h192_5, h192_6, h192_7, h192_8, h192_9⟩ := h192
                obtain ⟨j199, ej200, hc201⟩ := RSX_1 h192_0 (by decide)
                have hp202 : (gLF (KF 1 b n) (VF b n) (dt 79 10)) i = gOk j199 := hp167.trans ((show (gK (KF 1 b n) 59) j164 = gB ((gK (KF 1 b n) (159 - 100)) j164) gOk by first | exact gB_id.symm | exact gL2_n (by omega)).trans (by rw [ej200]; exact gB_0))
                have hi203 : j199 ≤ t := by have z := (fun (h : KZ (KF 1 b n) t) => gK_M (K := (KF 1 b n)) (k := 159 - 100) (i := j164) h (by decide)) hz; rw [ej200] at z; have y := z rfl; simp only at y; omega
                clear cr169 cb170 cv171 ck172
                have cr204 := CUR_R hc201 (.inr rfl)
                have cb205 := CUR_b hc201
                have cv206 := CUR_v hc201
                have ck207 := KZ_lt (i := j199) hz
                have c1208 := (hc201).1
                have ci209 := hi203
                refine go_retq PM173 (k := 0) (r := some (.inl 1)) (w1 := (SH, dt193)) rfl ?_
                exact ⟨dt193, rfl, hI194, hF196, (Or.inr ⟨rfl, ⟨by exact RSX_ok (hp202.trans (by rfl)) hc201, by first | exact True.intro | rfl | omega | trivial, by first | exact True.intro | rfl | omega | trivial, by first | exact True.intro | rfl | omega | trivial, by first | exact True.intro | rfl | omega | trivial, by exact (InvC_get (by assumption) 79 15 rfl rfl).2, by first | exact True.intro | rfl | omega | trivial, by first | exact True.intro | rfl | omega | trivial, by first | exact True.intro | rfl | omega | trivial, by first | exact True.intro | rfl | omega | trivial, by first | exact True.intro | rfl | omega | trivial⟩⟩)⟩
      · skip
        refine go_toq PM173 (k := 5) (pc' := 56) (L' := [some (.inr (.inr (some 79))), some (.inl 1)]) (st' := [.inl 0, .inr (.inr (some 79))]) (w' := (SH, dt)) rfl ?_
        have hI210 : InvC (u2 dt 79 20 0) := InvC_u2 hI (lo := 0) (hi := 8) rfl rfl rfl (by decide) (by decide)
        have hF211 : Fr [79, 83, 84] dt (u2 dt 79 20 0) := Fr_u2 hF (by decide)
        have w212 : (u2 dt 79 20 0) 79 2 = dt 79 2 := rfl
        have w213 : (u2 dt 79 20 0) 79 9 = dt 79 9 := rfl
        have w214 : (u2 dt 79 20 0) 79 10 = dt 79 10 := rfl
        have w215 : (u2 dt 79 20 0) 79 11 = dt 79 11 := rfl
        have w216 : (u2 dt 79 20 0) 79 12 = dt 79 12 := rfl
        have w217 : (u2 dt 79 20 0) 79 13 = dt 79 13 := rfl
        have w218 : (u2 dt 79 20 0) 79 14 = dt 79 14 := rfl
        have w219 : (u2 dt 79 20 0) 79 15 = dt 79 15 := rfl
        have w220 : (u2 dt 79 20 0) 79 16 = dt 79 16 := rfl
        have w221 : (u2 dt 79 20 0) 79 17 = dt 79 17 := rfl
        have w222 : (u2 dt 79 20 0) 79 18 = dt 79 18 := rfl
        have w223 : (u2 dt 79 20 0) 79 20 = 0 := rfl
        have hc224 : CUR 1 b n (u2 dt 79 20 0) i := CUR_sm hc rfl rfl rfl rfl
        refine go_smpq PM173 (L' := [some (.inr (.inr (some 79))), some (.inl 1)]) (st' := []) (w' := (SH, (u2 dt 79 20 0))) rfl rfl (s_pf rfl rfl rfl rfl ⟨by decide, by decide⟩) ?_
        refine go_toq PM173 (k := 1) (pc' := 60) (L' := [some (.inr (.inr (some 79))), some (.inl 1)]) (st' := [.inr (.inr (some 79))]) (w' := (SH, (u2 dt 79 20 0))) rfl ?_
        refine go_callq PM173 PM159 (Q' := _) rfl rfl rfl rfl (sp_X6_next0_p1 L xs sio (d + 30) (u2 dt 79 20 0) hI210   (by first | exact True.intro | rfl | omega | trivial) (by first | exact True.intro | rfl | omega | trivial)) ?_
        rintro _ _ ⟨dt226, rfl, hI227, hF228, h225⟩
        refine ⟨rfl, ?_⟩
        have hF229 : Fr [79, 83, 84] dt dt226 := Fr_tr hF211 hF228 (by decide)
        rcases h225 with ⟨rfl, h225⟩
        obtain ⟨h225_0, h225_1, h225_2, h225_3, h225_4, h225_5, h225_6, h225_7, h225_8⟩ := h225
        have hq230 := h225_0
        rw [show (u2 dt 79 20 0) 85 = dt 85 from funext (hF211 85 (by decide)), show (u2 dt 79 20 0) 79 12 = dt 79 12 by omega, hbb, show (dt 79 12).toNat = n by omega] at hq230
        have hc231 : CUR 1 b n dt226 (i + 1) := CUR_n hc224 hq230
        have hi232 : i + 1 ≤ t := by omega
        have av233 : (u2 dt 79 20 0) 79 15 + 1 ≤ (u2 dt 79 20 0) 79 13 := by omega
        have kk_ : KF 1 b n i = 1000 := by omega
        have hp234 : (gLF (KF 1 b n) (VF b n) (dt 79 10)) i = (fun i => gB (gA (KF 1 b n) (VF b n) 7 i) (gL1 (KF 1 b n) (VF b n))) (i + 1) := (rfl : (gLF (KF 1 b n) (VF b n) (dt 79 10)) i = (gLF (KF 1 b n) (VF b n) (dt 79 10)) i).trans (by show gLF _ _ _ _ = _; unfold gLF; rw [if_neg (by omega), if_neg (by omega)]; exact gLine_r (by omega))
        clear cr0 cb0 cv0 ck0
        have cr235 := CUR_R hc231 (.inr rfl)
        have cb236 := CUR_b hc231
        have cv237 := CUR_v hc231
        have ck238 := KZ_lt (i := (i + 1)) hz
        have c1239 := (hc231).1
        have ci240 := hi232
        have r241 : 0 ≤ dt226 79 10 ∧ dt226 79 10 ≤ 24 := InvC_get hI227 79 10 rfl rfl
        have r242 : 0 ≤ dt226 79 16 ∧ dt226 79 16 ≤ 9999 := InvC_get hI227 79 16 rfl rfl
        refine go_toq PM173 (k := 11) (pc' := 86) (L' := [some (.inr (.inr (some 79))), some (.inl 1)]) (st' := [.inl (dt226 79 16), .inl (4 * (dt226 79 10)), .inr (.inr (some 83))]) (w' := (SH, dt226)) rfl ?_
        have hI243 : InvC (u2 dt226 83 ((4 * (dt226 79 10)).toNat) (dt226 79 16)) := InvC_u2 hI227 (lo := -2147483648) (hi := 2147483647) rfl rfl rfl (by first | exact bnd1 r242 (by decide) | omega) (by first | exact bnd2 r242 (by decide) | omega)
        have hF244 : Fr [79, 83, 84] dt (u2 dt226 83 ((4 * (dt226 79 10)).toNat) (dt226 79 16)) := Fr_u2 hF229 (by decide)
        have w245 : (u2 dt226 83 ((4 * (dt226 79 10)).toNat) (dt226 79 16)) 79 2 = dt226 79 2 := rfl
        have w246 : (u2 dt226 83 ((4 * (dt226 79 10)).toNat) (dt226 79 16)) 79 9 = dt226 79 9 := rfl
        have w247 : (u2 dt226 83 ((4 * (dt226 79 10)).toNat) (dt226 79 16)) 79 10 = dt226 79 10 := rfl
        have w248 : (u2 dt226 83 ((4 * (dt226 79 10)).toNat) (dt226 79 16)) 79 11 = dt226 79 11 := rfl
        have w249 : (u2 dt226 83 ((4 * (dt226 79 10)).toNat) (dt226 79 16)) 79 12 = dt226 79 12 := rfl
        have w250 : (u2 dt226 83 ((4 * (dt226 79 10)).toNat) (dt226 79 16)) 79 13 = dt226 79 13 := rfl
        have w251 : (u2 dt226 83 ((4 * (dt226 79 10)).toNat) (dt226 79 16)) 79 14 = dt226 79 14 := rfl
        have w252 : (u2 dt226 83 ((4 * (dt226 79 10)).toNat) (dt226 79 16)) 79 15 = dt226 79 15 := rfl
        have w253 : (u2 dt226 83 ((4 * (dt226 79 10)).toNat) (dt226 79 16)) 79 16 = dt226 79 16 := rfl
        have w254 : (u2 dt226 83 ((4 * (dt226 79 10)).toNat) (dt226 79 16)) 79 17 = dt226 79 17 := rfl
        have w255 : (u2 dt226 83 ((4 * (dt226 79 10)).toNat) (dt226 79 16)) 79 18 = dt226 79 18 := rfl
        have w256 : (u2 dt226 83 ((4 * (dt226 79 10)).toNat) (dt226 79 16)) 79 20 = dt226 79 20 := rfl
        have hc257 : CUR 1 b n (u2 dt226 83 ((4 * (dt226 79 10)).toNat) (dt226 79 16)) (i + 1) := CUR_sm hc231 rfl rfl rfl rfl
        refine go_smpq PM173 (L' := [some (.inr (.inr (some 79))), some (.inl 1)]) (st' := []) (w' := (SH, (u2 dt226 83 ((4 * (dt226 79 10)).toNat) (dt226 79 16)))) rfl rfl (s_iast (n := 64) rfl ⟨by omega, by omega⟩ (by first | exact bnd r242 (by decide) (by decide) | exact ⟨by omega, by omega⟩)) ?_
        refine go_toq PM173 (k := 5) (pc' := 95) (L' := [some (.inr (.inr (some 79))), some (.inl 1)]) (st' := [.inl 7, .inl 0, .inr (.inr (some 79))]) (w' := (SH, (u2 dt226 83 ((4 * (dt226 79 10)).toNat) (dt226 79 16)))) rfl ?_
        refine go_callq PM173 PM162 (Q' := _) rfl rfl rfl rfl (sp_X6_number_g1a L xs sio (d + 29) (u2 dt226 83 ((4 * (dt226 79 10)).toNat) (dt226 79 16)) hI243 b n t (i + 1) (by first | exact hbb | (rw [show (u2 dt226 83 ((4 * (dt226 79 10)).toNat) (dt226 79 16)) 85 = dt 85 from funext (hF244 85 (by decide)), show (u2 dt226 83 ((4 * (dt226 79 10)).toNat) (dt226 79 16)) 79 12 = dt 79 12 by omega]; exact hbb)) (by omega) hz ht hc257 hi232 hn5 7 ⟨by decide, by decide⟩ (by first | exact True.intro | rfl | omega | trivial)) ?_
        rintro _ _ ⟨dt259, rfl, hI260, hF261, h258⟩
        refine ⟨rfl, ?_⟩
        have hF262 : Fr [79, 83, 84] dt dt259 := Fr_tr hF244 hF261 (by decide)
        rcases h258 with ⟨rfl, h258⟩ | ⟨rfl, h258⟩
        · skip
          obtain ⟨h258_0, h258_1, h258_2, h258_3, h258_4⟩ := h258
          have fl263 := RSX_0 h258_0 rfl
          have fe264 : (gLF (KF 1 b n) (VF b n) (dt 79 10)) i = (gA (KF 1 b n) (VF b n) 7) (i + 1) := hp234.trans ((show (fun i => gB (gA (KF 1 b n) (VF b n) 7 i) (gL1 (KF 1 b n) (VF b n))) (i + 1) = gB ((gA (KF 1 b n) (VF b n) 7) (i + 1)) (gL1 (KF 1 b n) (VF b n)) by rfl).trans (gB_no fl263.1))
          refine go_retq PM173 (k := 2) (r := some (.inl 0)) (w1 := (SH, dt259)) rfl ?_
          exact ⟨dt259, rfl, hI260, hF262, (Or.inl ⟨rfl, ⟨by exact RSX_f fe264 fl263 (by omega) (by omega), by first | exact True.intro | rfl | omega | trivial, by first | exact True.intro | rfl | omega | trivial, by first | exact True.intro | rfl | omega | trivial, by first | exact True.intro | rfl | omega | trivial⟩⟩)⟩
        · skip
          obtain ⟨h258_0, h258_1, h258_2, h258_3, h258_4, h258_5, h258_6, h258_7, h258_8, h258_9, h258_10⟩ := h258
          obtain ⟨j265, ej266, hc267⟩ := RSX_1 h258_0 (by decide)
          have hp268 : (gLF (KF 1 b n) (VF b n) (dt 79 10)) i = (gL1 (KF 1 b n) (VF b n)) j265 := hp234.trans ((show (fun i => gB (gA (KF 1 b n) (VF b n) 7 i) (gL1 (KF 1 b n) (VF b n))) (i + 1) = gB ((gA (KF 1 b n) (VF b n) 7) (i + 1)) (gL1 (KF 1 b n) (VF b n)) by rfl).trans (by rw [ej266]; exact gB_0))
          have hi269 : j265 ≤ t := by have z := gA_M (K := (KF 1 b n)) (V := (VF b n)) (m := 7) (i := (i + 1)) hz; rw [ej266] at z; have y := z rfl; simp only at y; omega
          clear cr235 cb236 cv237 ck238
          have cr270 := CUR_R hc267 (.inr rfl)
          have cb271 := CUR_b hc267
          have cv272 := CUR_v hc267
          have ck273 := KZ_lt (i := j265) hz
          have c1274 := (hc267).1
          have ci275 := hi269
          have r276 : 0 ≤ dt259 79 10 ∧ dt259 79 10 ≤ 24 := InvC_get hI260 79 10 rfl rfl
          have r277 : 0 ≤ dt259 79 11 ∧ dt259 79 11 ≤ 510 := InvC_get hI260 79 11 rfl rfl
          refine go_toq PM173 (k := 11) (pc' := 119) (L' := [some (.inr (.inr (some 79))), some (.inl 1)]) (st' := [.inl (dt259 79 11), .inl ((4 * (dt259 79 10)) + 1), .inr (.inr (some 83))]) (w' := (SH, dt259)) rfl ?_
          have hI278 : InvC (u2 dt259 83 (((4 * (dt259 79 10)) + 1).toNat) (dt259 79 11)) := InvC_u2 hI260 (lo := -2147483648) (hi := 2147483647) rfl rfl rfl (by first | exact bnd1 r277 (by decide) | omega) (by first | exact bnd2 r277 (by decide) | omega)
          have hF279 : Fr [79, 83, 84] dt (u2 dt259 83 (((4 * (dt259 79 10)) + 1).toNat) (dt259 79 11)) := Fr_u2 hF262 (by decide)
          have w280 : (u2 dt259 83 (((4 * (dt259 79 10)) + 1).toNat) (dt259 79 11)) 79 2 = dt259 79 2 := rfl
          have w281 : (u2 dt259 83 (((4 * (dt259 79 10)) + 1).toNat) (dt259 79 11)) 79 9 = dt259 79 9 := rfl
          have w282 : (u2 dt259 83 (((4 * (dt259 79 10)) + 1).toNat) (dt259 79 11)) 79 10 = dt259 79 10 := rfl
          have w283 : (u2 dt259 83 (((4 * (dt259 79 10)) + 1).toNat) (dt259 79 11)) 79 11 = dt259 79 11 := rfl
          have w284 : (u2 dt259 83 (((4 * (dt259 79 10)) + 1).toNat) (dt259 79 11)) 79 12 = dt259 79 12 := rfl
          have w285 : (u2 dt259 83 (((4 * (dt259 79 10)) + 1).toNat) (dt259 79 11)) 79 13 = dt259 79 13 := rfl
          have w286 : (u2 dt259 83 (((4 * (dt259 79 10)) + 1).toNat) (dt259 79 11)) 79 14 = dt259 79 14 := rfl
          have w287 : (u2 dt259 83 (((4 * (dt259 79 10)) + 1).toNat) (dt259 79 11)) 79 15 = dt259 79 15 := rfl
          have w288 : (u2 dt259 83 (((4 * (dt259 79 10)) + 1).toNat) (dt259 79 11)) 79 16 = dt259 79 16 := rfl
          have w289 : (u2 dt259 83 (((4 * (dt259 79 10)) + 1).toNat) (dt259 79 11)) 79 17 = dt259 79 17 := rfl
          have w290 : (u2 dt259 83 (((4 * (dt259 79 10)) + 1).toNat) (dt259 79 11)) 79 18 = dt259 79 18 := rfl
          have w291 : (u2 dt259 83 (((4 * (dt259 79 10)) + 1).toNat) (dt259 79 11)) 79 20 = dt259 79 20 := rfl
          have hc292 : CUR 1 b n (u2 dt259 83 (((4 * (dt259 79 10)) + 1).toNat) (dt259 79 11)) j265 := CUR_sm hc267 rfl rfl rfl rfl
          refine go_smpq PM173 (L' := [some (.inr (.inr (some 79))), some (.inl 1)]) (st' := []) (w' := (SH, (u2 dt259 83 (((4 * (dt259 79 10)) + 1).toNat) (dt259 79 11)))) rfl rfl (s_iast (n := 64) rfl ⟨by omega, by omega⟩ (by first | exact bnd r277 (by decide) (by decide) | exact ⟨by omega, by omega⟩)) ?_
          refine go_toq PM173 (k := 1) (pc' := 121) (L' := [some (.inr (.inr (some 79))), some (.inl 1)]) (st' := [.inr (.inr (some 79))]) (w' := (SH, (u2 dt259 83 (((4 * (dt259 79 10)) + 1).toNat) (dt259 79 11)))) rfl ?_
          refine go_callq PM173 PM165 (Q' := _) rfl rfl rfl rfl (sp_X6_sumUp_g L xs sio (d + 27) (u2 dt259 83 (((4 * (dt259 79 10)) + 1).toNat) (dt259 79 11)) hI278 b n t j265 (by first | exact hbb | (rw [show (u2 dt259 83 (((4 * (dt259 79 10)) + 1).toNat) (dt259 79 11)) 85 = dt 85 from funext (hF279 85 (by decide)), show (u2 dt259 83 (((4 * (dt259 79 10)) + 1).toNat) (dt259 79 11)) 79 12 = dt 79 12 by omega]; exact hbb)) (by omega) hz ht hc292 hi269 hn5  (by first | exact True.intro | rfl | omega | trivial) (by first | exact True.intro | rfl | omega | trivial)) ?_
          rintro _ _ ⟨dt294, rfl, hI295, hF296, h293⟩
          refine ⟨rfl, ?_⟩
          have hF297 : Fr [79, 83, 84] dt dt294 := Fr_tr hF279 hF296 (by decide)
          rcases h293 with ⟨rfl, h293⟩ | ⟨rfl, h293⟩
          · skip
            obtain ⟨h293_0, h293_1, h293_2, h293_3, h293_4⟩ := h293
            have fl298 := RSX_0 h293_0 rfl
            have fe299 : (gLF (KF 1 b n) (VF b n) (dt 79 10)) i = (gE (KF 1 b n) (VF b n)) j265 := hp268.trans ((show (gL1 (KF 1 b n) (VF b n)) j265 = gB ((gE (KF 1 b n) (VF b n)) j265) (gL2 (KF 1 b n) (VF b n)) by rfl).trans (gB_no fl298.1))
            refine go_retq PM173 (k := 2) (r := some (.inl 0)) (w1 := (SH, dt294)) rfl ?_
            exact ⟨dt294, rfl, hI295, hF297, (Or.inl ⟨rfl, ⟨by exact RSX_f fe299 fl298 (by omega) (by omega), by first | exact True.intro | rfl | omega | trivial, by first | exact True.intro | rfl | omega | trivial, by first | exact True.intro | rfl | omega | trivial, by first | exact True.intro | rfl | omega | trivial⟩⟩)⟩
          · skip
            obtain ⟨h293_0, h293_1, h293_2, h293_3, h293_4, h293_5, h293_6, h293_7, h293_8, h293_9⟩ := h293
            obtain ⟨j300, ej301, hc302⟩ := RSX_1 h293_0 (by decide)
            have hp303 : (gLF (KF 1 b n) (VF b n) (dt 79 10)) i = (gL2 (KF 1 b n) (VF b n)) j300 := hp268.trans ((show (gL1 (KF 1 b n) (VF b n)) j265 = gB ((gE (KF 1 b n) (VF b n)) j265) (gL2 (KF 1 b n) (VF b n)) by rfl).trans (by rw [ej301]; exact gB_0))
            have hi304 : j300 ≤ t := by have z := gE_M (K := (KF 1 b n)) (V := (VF b n)) (i := j265) hz; rw [ej301] at z; have y := z rfl; simp only at y; omega
            clear cr270 cb271 cv272 ck273
            have cr305 := CUR_R hc302 (.inr rfl)
            have cb306 := CUR_b hc302
            have cv307 := CUR_v hc302
            have ck308 := KZ_lt (i := j300) hz
            have c1309 := (hc302).1
            have ci310 := hi304
            have r311 : 0 ≤ dt294 79 10 ∧ dt294 79 10 ≤ 24 := InvC_get hI295 79 10 rfl rfl
            have r312 : 0 ≤ dt294 79 11 ∧ dt294 79 11 ≤ 510 := InvC_get hI295 79 11 rfl rfl
            refine go_toq PM173 (k := 11) (pc' := 145) (L' := [some (.inr (.inr (some 79))), some (.inl 1)]) (st' := [.inl (dt294 79 11), .inl ((4 * (dt294 79 10)) + 2), .inr (.inr (some 83))]) (w' := (SH, dt294)) rfl ?_
            have hI313 : InvC (u2 dt294 83 (((4 * (dt294 79 10)) + 2).toNat) (dt294 79 11)) := InvC_u2 hI295 (lo := -2147483648) (hi := 2147483647) rfl rfl rfl (by first | exact bnd1 r312 (by decide) | omega) (by first | exact bnd2 r312 (by decide) | omega)
            have hF314 : Fr [79, 83, 84] dt (u2 dt294 83 (((4 * (dt294 79 10)) + 2).toNat) (dt294 79 11)) := Fr_u2 hF297 (by decide)
            have w315 : (u2 dt294 83 (((4 * (dt294 79 10)) + 2).toNat) (dt294 79 11)) 79 2 = dt294 79 2 := rfl
            have w316 : (u2 dt294 83 (((4 * (dt294 79 10)) + 2).toNat) (dt294 79 11)) 79 9 = dt294 79 9 := rfl
            have w317 : (u2 dt294 83 (((4 * (dt294 79 10)) + 2).toNat) (dt294 79 11)) 79 10 = dt294 79 10 := rfl
            have w318 : (u2 dt294 83 (((4 * (dt294 79 10)) + 2).toNat) (dt294 79 11)) 79 11 = dt294 79 11 := rfl
            have w319 : (u2 dt294 83 (((4 * (dt294 79 10)) + 2).toNat) (dt294 79 11)) 79 12 = dt294 79 12 := rfl
            have w320 : (u2 dt294 83 (((4 * (dt294 79 10)) + 2).toNat) (dt294 79 11)) 79 13 = dt294 79 13 := rfl
            have w321 : (u2 dt294 83 (((4 * (dt294 79 10)) + 2).toNat) (dt294 79 11)) 79 14 = dt294 79 14 := rfl
            have w322 : (u2 dt294 83 (((4 * (dt294 79 10)) + 2).toNat) (dt294 79 11)) 79 15 = dt294 79 15 := rfl
            have w323 : (u2 dt294 83 (((4 * (dt294 79 10)) + 2).toNat) (dt294 79 11)) 79 16 = dt294 79 16 := rfl
            have w324 : (u2 dt294 83 (((4 * (dt294 79 10)) + 2).toNat) (dt294 79 11)) 79 17 = dt294 79 17 := rfl
            have w325 : (u2 dt294 83 (((4 * (dt294 79 10)) + 2).toNat) (dt294 79 11)) 79 18 = dt294 79 18 := rfl
            have w326 : (u2 dt294 83 (((4 * (dt294 79 10)) + 2).toNat) (dt294 79 11)) 79 20 = dt294 79 20 := rfl
            have hc327 : CUR 1 b n (u2 dt294 83 (((4 * (dt294 79 10)) + 2).toNat) (dt294 79 11)) j300 := CUR_sm hc302 rfl rfl rfl rfl
            refine go_smpq PM173 (L' := [some (.inr (.inr (some 79))), some (.inl 1)]) (st' := []) (w' := (SH, (u2 dt294 83 (((4 * (dt294 79 10)) + 2).toNat) (dt294 79 11)))) rfl rfl (s_iast (n := 64) rfl ⟨by omega, by omega⟩ (by first | exact bnd r312 (by decide) (by decide) | exact ⟨by omega, by omega⟩)) ?_
            have r328 : (-2147483648) ≤ dt294 79 14 ∧ dt294 79 14 ≤ 2147483647 := InvC_get hI295 79 14 rfl rfl
            refine go_ifq PM173 (k := 3) (p1 := 167) (p2 := 154) (L' := [some (.inr (.inr (some 79))), some (.inl 1)]) (st' := []) (w' := (SH, (u2 dt294 83 (((4 * (dt294 79 10)) + 2).toNat) (dt294 79 11)))) rfl (c_ne (a := dt294 79 14) (b := 3) (by first | exact bnd r328 (by decide) (by decide) | exact ⟨by omega, by omega⟩) ⟨by decide, by decide⟩) (fun c329 => ?_) (fun c329 => ?_)
            · skip
              refine go_toq PM173 (k := 10) (pc' := 183) (L' := [some (.inr (.inr (some 79))), some (.inl 1)]) (st' := [.inl (dt294 79 11), .inl ((4 * (dt294 79 10)) + 3), .inr (.inr (some 83))]) (w' := (SH, (u2 dt294 83 (((4 * (dt294 79 10)) + 2).toNat) (dt294 79 11)))) rfl ?_
              have hI330 : InvC (u2 (u2 dt294 83 (((4 * (dt294 79 10)) + 2).toNat) (dt294 79 11)) 83 (((4 * (dt294 79 10)) + 3).toNat) (dt294 79 11)) := InvC_u2 hI313 (lo := -2147483648) (hi := 2147483647) rfl rfl rfl (by first | exact bnd1 r312 (by decide) | omega) (by first | exact bnd2 r312 (by decide) | omega)
              have hF331 : Fr [79, 83, 84] dt (u2 (u2 dt294 83 (((4 * (dt294 79 10)) + 2).toNat) (dt294 79 11)) 83 (((4 * (dt294 79 10)) + 3).toNat) (dt294 79 11)) := Fr_u2 hF314 (by decide)
              have w332 : (u2 (u2 dt294 83 (((4 * (dt294 79 10)) + 2).toNat) (dt294 79 11)) 83 (((4 * (dt294 79 10)) + 3).toNat) (dt294 79 11)) 79 2 = (u2 dt294 83 (((4 * (dt294 79 10)) + 2).toNat) (dt294 79 11)) 79 2 := rfl
              have w333 : (u2 (u2 dt294 83 (((4 * (dt294 79 10)) + 2).toNat) (dt294 79 11)) 83 (((4 * (dt294 79 10)) + 3).toNat) (dt294 79 11)) 79 9 = (u2 dt294 83 (((4 * (dt294 79 10)) + 2).toNat) (dt294 79 11)) 79 9 := rfl
              have w334 : (u2 (u2 dt294 83 (((4 * (dt294 79 10)) + 2).toNat) (dt294 79 11)) 83 (((4 * (dt294 79 10)) + 3).toNat) (dt294 79 11)) 79 10 = (u2 dt294 83 (((4 * (dt294 79 10)) + 2).toNat) (dt294 79 11)) 79 10 := rfl
              have w335 : (u2 (u2 dt294 83 (((4 * (dt294 79 10)) + 2).toNat) (dt294 79 11)) 83 (((4 * (dt294 79 10)) + 3).toNat) (dt294 79 11)) 79 11 = (u2 dt294 83 (((4 * (dt294 79 10)) + 2).toNat) (dt294 79 11)) 79 11 := rfl
              have w336 : (u2 (u2 dt294 83 (((4 * (dt294 79 10)) + 2).toNat) (dt294 79 11)) 83 (((4 * (dt294 79 10)) + 3).toNat) (dt294 79 11)) 79 12 = (u2 dt294 83 (((4 * (dt294 79 10)) + 2).toNat) (dt294 79 11)) 79 12 := rfl
              have w337 : (u2 (u2 dt294 83 (((4 * (dt294 79 10)) + 2).toNat) (dt294 79 11)) 83 (((4 * (dt294 79 10)) + 3).toNat) (dt294 79 11)) 79 13 = (u2 dt294 83 (((4 * (dt294 79 10)) + 2).toNat) (dt294 79 11)) 79 13 := rfl
              have w338 : (u2 (u2 dt294 83 (((4 * (dt294 79 10)) + 2).toNat) (dt294 79 11)) 83 (((4 * (dt294 79 10)) + 3).toNat) (dt294 79 11)) 79 14 = (u2 dt294 83 (((4 * (dt294 79 10)) + 2).toNat) (dt294 79 11)) 79 14 := rfl
              have w339 : (u2 (u2 dt294 83 (((4 * (dt294 79 10)) + 2).toNat) (dt294 79 11)) 83 (((4 * (dt294 79 10)) + 3).toNat) (dt294 79 11)) 79 15 = (u2 dt294 83 (((4 * (dt294 79 10)) + 2).toNat) (dt294 79 11)) 79 15 := rfl
              have w340 : (u2 (u2 dt294 83 (((4 * (dt294 79 10)) + 2).toNat) (dt294 79 11)) 83 (((4 * (dt294 79 10)) + 3).toNat) (dt294 79 11)) 79 16 = (u2 dt294 83 (((4 * (dt294 79 10)) + 2).toNat) (dt294 79 11)) 79 16 := rfl
              have w341 : (u2 (u2 dt294 83 (((4 * (dt294 79 10)) + 2).toNat) (dt294 79 11)) 83 (((4 * (dt294 79 10)) + 3).toNat) (dt294 79 11)) 79 17 = (u2 dt294 83 (((4 * (dt294 79 10)) + 2).toNat) (dt294 79 11)) 79 17 := rfl
              have w342 : (u2 (u2 dt294 83 (((4 * (dt294 79 10)) + 2).toNat) (dt294 79 11)) 83 (((4 * (dt294 79 10)) + 3).toNat) (dt294 79 11)) 79 18 = (u2 dt294 83 (((4 * (dt294 79 10)) + 2).toNat) (dt294 79 11)) 79 18 := rfl
              have w343 : (u2 (u2 dt294 83 (((4 * (dt294 79 10)) + 2).toNat) (dt294 79 11)) 83 (((4 * (dt294 79 10)) + 3).toNat) (dt294 79 11)) 79 20 = (u2 dt294 83 (((4 * (dt294 79 10)) + 2).toNat) (dt294 79 11)) 79 20 := rfl
              have hc344 : CUR 1 b n (u2 (u2 dt294 83 (((4 * (dt294 79 10)) + 2).toNat) (dt294 79 11)) 83 (((4 * (dt294 79 10)) + 3).toNat) (dt294 79 11)) j300 := CUR_sm hc327 rfl rfl rfl rfl
              refine go_smpq PM173 (L' := [some (.inr (.inr (some 79))), some (.inl 1)]) (st' := []) (w' := (SH, (u2 (u2 dt294 83 (((4 * (dt294 79 10)) + 2).toNat) (dt294 79 11)) 83 (((4 * (dt294 79 10)) + 3).toNat) (dt294 79 11)))) rfl rfl (s_iast (n := 64) rfl ⟨by omega, by omega⟩ (by first | exact bnd r312 (by decide) (by decide) | exact ⟨by omega, by omega⟩)) ?_
              refine go_toq PM173 (k := 2) (pc' := 188) (L' := [some (.inr (.inr (some 79))), some (.inl 1)]) (st' := [.inl 159, .inr (.inr (some 79))]) (w' := (SH, (u2 (u2 dt294 83 (((4 * (dt294 79 10)) + 2).toNat) (dt294 79 11)) 83 (((4 * (dt294 79 10)) + 3).toNat) (dt294 79 11)))) rfl ?_
              refine go_callq PM173 PM161 (Q' := _) rfl rfl rfl rfl (sp_X6_need0_g1 L xs sio (d + 29) (u2 (u2 dt294 83 (((4 * (dt294 79 10)) + 2).toNat) (dt294 79 11)) 83 (((4 * (dt294 79 10)) + 3).toNat) (dt294 79 11)) hI330 b n t j300 (by first | exact hbb | (rw [show (u2 (u2 dt294 83 (((4 * (dt294 79 10)) + 2).toNat) (dt294 79 11)) 83 (((4 * (dt294 79 10)) + 3).toNat) (dt294 79 11)) 85 = dt 85 from funext (hF331 85 (by decide)), show (u2 (u2 dt294 83 (((4 * (dt294 79 10)) + 2).toNat) (dt294 79 11)) 83 (((4 * (dt294 79 10)) + 3).toNat) (dt294 79 11)) 79 12 = dt 79 12 by omega]; exact hbb)) (by omega) hz ht hc344 hi304 hn5 159 ⟨by decide, by decide⟩ (by first | exact True.intro | rfl | omega | trivial)) ?_
              rintro _ _ ⟨dt346, rfl, hI347, hF348, h345⟩
              refine ⟨rfl, ?_⟩
              have hF349 : Fr [79, 83, 84] dt dt346 := Fr_tr hF331 hF348 (by decide)
              rcases h345 with ⟨rfl, h345⟩ | ⟨rfl, h345⟩
              · skip
                obtain ⟨h345_0, h345_1, h345_2, h345_3, h345_4⟩ := h345
                have fl350 := RSX_0 h345_0 rfl
                have fe351 : (gLF (KF 1 b n) (VF b n) (dt 79 10)) i = (gK (KF 1 b n) (159 - 100)) j300 := hp303.trans ((show (gL2 (KF 1 b n) (VF b n)) j300 = gB ((gK (KF 1 b n) (159 - 100)) j300) gOk by first | exact gB_id.symm | exact gL2_n (by omega)).trans (gB_no fl350.1))
                refine go_retq PM173 (k := 0) (r := some (.inl 0)) (w1 := (SH, dt346)) rfl ?_
                exact ⟨dt346, rfl, hI347, hF349, (Or.inl ⟨rfl, ⟨by exact RSX_f fe351 fl350 (by omega) (by omega), by first | exact True.intro | rfl | omega | trivial, by first | exact True.intro | rfl | omega | trivial, by first | exact True.intro | rfl | omega | trivial, by first | exact True.intro | rfl | omega | trivial⟩⟩)⟩
              · skip
                obtain ⟨h345_0, h345_1, h345_2, h345_3, h345_4, h345_5, h345_6, h345_7, h345_8, h345_9⟩ := h345
                obtain ⟨j352, ej353, hc354⟩ := RSX_1 h345_0 (by decide)
                have hp355 : (gLF (KF 1 b n) (VF b n) (dt 79 10)) i = gOk j352 := hp303.trans ((show (gL2 (KF 1 b n) (VF b n)) j300 = gB ((gK (KF 1 b n) (159 - 100)) j300) gOk by first | exact gB_id.symm | exact gL2_n (by omega)).trans (by rw [ej353]; exact gB_0))
                have hi356 : j352 ≤ t := by have z := (fun (h : KZ (KF 1 b n) t) => gK_M (K := (KF 1 b n)) (k := 159 - 100) (i := j300) h (by decide)) hz; rw [ej353] at z; have y := z rfl; simp only at y; omega
                clear cr305 cb306 cv307 ck308
                have cr357 := CUR_R hc354 (.inr rfl)
                have cb358 := CUR_b hc354
                have cv359 := CUR_v hc354
                have ck360 := KZ_lt (i := j352) hz
                have c1361 := (hc354).1
                have ci362 := hi356
                refine go_retq PM173 (k := 0) (r := some (.inl 1)) (w1 := (SH, dt346)) rfl ?_
                exact ⟨dt346, rfl, hI347, hF349, (Or.inr ⟨rfl, ⟨by exact RSX_ok (hp355.trans (by rfl)) hc354, by first | exact True.intro | rfl | omega | trivial, by first | exact True.intro | rfl | omega | trivial, by first | exact True.intro | rfl | omega | trivial, by first | exact True.intro | rfl | omega | trivial, by exact (InvC_get (by assumption) 79 15 rfl rfl).2, by first | exact True.intro | rfl | omega | trivial, by first | exact True.intro | rfl | omega | trivial, by first | exact True.intro | rfl | omega | trivial, by first | exact True.intro | rfl | omega | trivial, by first | exact True.intro | rfl | omega | trivial⟩⟩)⟩
            · skip
              refine go_toq PM173 (k := 1) (pc' := 155) (L' := [some (.inr (.inr (some 79))), some (.inl 1)]) (st' := [.inr (.inr (some 79))]) (w' := (SH, (u2 dt294 83 (((4 * (dt294 79 10)) + 2).toNat) (dt294 79 11)))) rfl ?_
              refine go_callq PM173 PM159 (Q' := _) rfl rfl rfl rfl (sp_X6_next0_p1 L xs sio (d + 30) (u2 dt294 83 (((4 * (dt294 79 10)) + 2).toNat) (dt294 79 11)) hI313   (by first | exact True.intro | rfl | omega | trivial) (by first | exact True.intro | rfl | omega | trivial)) ?_
              rintro _ _ ⟨dt364, rfl, hI365, hF366, h363⟩
              refine ⟨rfl, ?_⟩
              have hF367 : Fr [79, 83, 84] dt dt364 := Fr_tr hF314 hF366 (by decide)
              rcases h363 with ⟨rfl, h363⟩
              obtain ⟨h363_0, h363_1, h363_2, h363_3, h363_4, h363_5, h363_6, h363_7, h363_8⟩ := h363
              have hq368 := h363_0
              rw [show (u2 dt294 83 (((4 * (dt294 79 10)) + 2).toNat) (dt294 79 11)) 85 = dt 85 from funext (hF314 85 (by decide)), show (u2 dt294 83 (((4 * (dt294 79 10)) + 2).toNat) (dt294 79 11)) 79 12 = dt 79 12 by omega, hbb, show (dt 79 12).toNat = n by omega] at hq368
              have hc369 : CUR 1 b n dt364 (j300 + 1) := CUR_n hc327 hq368
              have hi370 : j300 + 1 ≤ t := by omega
              have av371 : (u2 dt294 83 (((4 * (dt294 79 10)) + 2).toNat) (dt294 79 11)) 79 15 + 1 ≤ (u2 dt294 83 (((4 * (dt294 79 10)) + 2).toNat) (dt294 79 11)) 79 13 := by omega
              have hp372 : (gLF (KF 1 b n) (VF b n) (dt 79 10)) i = (fun i => gB (gB_ (KF 1 b n) (VF b n) 8 i) (gK (KF 1 b n) 59)) (j300 + 1) := hp303.trans (by exact gL2_w (by omega))
              clear cr305 cb306 cv307 ck308
              have cr373 := CUR_R hc369 (.inr rfl)
              have cb374 := CUR_b hc369
              have cv375 := CUR_v hc369
              have ck376 := KZ_lt (i := (j300 + 1)) hz
              have c1377 := (hc369).1
              have ci378 := hi370
              refine go_toq PM173 (k := 1) (pc' := 159) (L' := [some (.inr (.inr (some 79))), some (.inl 1)]) (st' := [.inr (.inr (some 79))]) (w' := (SH, dt364)) rfl ?_
              refine go_callq PM173 PM168 (Q' := _) rfl rfl rfl rfl (sp_X6_any_g0 L xs sio (d + 0) dt364 hI365 b n t (j300 + 1) (by first | exact hbb | (rw [show dt364 85 = dt 85 from funext (hF367 85 (by decide)), show dt364 79 12 = dt 79 12 by omega]; exact hbb)) (by omega) hz ht hc369 hi370 hn5  (by first | exact True.intro | rfl | omega | trivial) (by first | exact True.intro | rfl | omega | trivial) (by first | exact True.intro | rfl | omega | trivial)) ?_
              rintro _ _ ⟨dt380, rfl, hI381, hF382, h379⟩
              refine ⟨rfl, ?_⟩
              have hF383 : Fr [79, 83, 84] dt dt380 := Fr_tr hF367 hF382 (by decide)
              rcases h379 with ⟨rfl, h379⟩ | ⟨rfl, h379⟩
              · skip
                obtain ⟨h379_0, h379_1, h379_2, h379_3, h379_4⟩ := h379
                have fl384 := RSX_0 h379_0 rfl
                have fe385 : (gLF (KF 1 b n) (VF b n) (dt 79 10)) i = (gB_ (KF 1 b n) (VF b n) 8) (j300 + 1) := hp372.trans ((show (fun i => gB (gB_ (KF 1 b n) (VF b n) 8 i) (gK (KF 1 b n) 59)) (j300 + 1) = gB ((gB_ (KF 1 b n) (VF b n) 8) (j300 + 1)) (gK (KF 1 b n) 59) by rfl).trans (gB_no fl384.1))
                refine go_retq PM173 (k := 2) (r := some (.inl 0)) (w1 := (SH, dt380)) rfl ?_
                exact ⟨dt380, rfl, hI381, hF383, (Or.inl ⟨rfl, ⟨by exact RSX_f fe385 fl384 (by omega) (by omega), by first | exact True.intro | rfl | omega | trivial, by first | exact True.intro | rfl | omega | trivial, by first | exact True.intro | rfl | omega | trivial, by first | exact True.intro | rfl | omega | trivial⟩⟩)⟩
              · skip
                obtain ⟨h379_0, h379_1, h379_2, h379_3, h379_4, h379_5, h379_6, h379_7, h379_8, h379_9⟩ := h379
                obtain ⟨j386, ej387, hc388⟩ := RSX_1 h379_0 (by decide)
                have hp389 : (gLF (KF 1 b n) (VF b n) (dt 79 10)) i = (gK (KF 1 b n) 59) j386 := hp372.trans ((show (fun i => gB (gB_ (KF 1 b n) (VF b n) 8 i) (gK (KF 1 b n) 59)) (j300 + 1) = gB ((gB_ (KF 1 b n) (VF b n) 8) (j300 + 1)) (gK (KF 1 b n) 59) by rfl).trans (by rw [ej387]; exact gB_0))
                have hi390 : j386 ≤ t := by have z := gB__M (K := (KF 1 b n)) (V := (VF b n)) (d := 8) (i := (j300 + 1)) hz; rw [ej387] at z; have y := z rfl; simp only at y; omega
                clear cr373 cb374 cv375 ck376
                have cr391 := CUR_R hc388 (.inr rfl)
                have cb392 := CUR_b hc388
                have cv393 := CUR_v hc388
                have ck394 := KZ_lt (i := j386) hz
                have c1395 := (hc388).1
                have ci396 := hi390
                have r397 : 0 ≤ dt380 79 10 ∧ dt380 79 10 ≤ 24 := InvC_get hI381 79 10 rfl rfl
                have r398 : 0 ≤ dt380 79 11 ∧ dt380 79 11 ≤ 510 := InvC_get hI381 79 11 rfl rfl
                refine go_toq PM173 (k := 11) (pc' := 183) (L' := [some (.inr (.inr (some 79))), some (.inl 1)]) (st' := [.inl (dt380 79 11), .inl ((4 * (dt380 79 10)) + 3), .inr (.inr (some 83))]) (w' := (SH, dt380)) rfl ?_
                have hI399 : InvC (u2 dt380 83 (((4 * (dt380 79 10)) + 3).toNat) (dt380 79 11)) := InvC_u2 hI381 (lo := -2147483648) (hi := 2147483647) rfl rfl rfl (by first | exact bnd1 r398 (by decide) | omega) (by first | exact bnd2 r398 (by decide) | omega)
                have hF400 : Fr [79, 83, 84] dt (u2 dt380 83 (((4 * (dt380 79 10)) + 3).toNat) (dt380 79 11)) := Fr_u2 hF383 (by decide)
                have w401 : (u2 dt380 83 (((4 * (dt380 79 10)) + 3).toNat) (dt380 79 11)) 79 2 = dt380 79 2 := rfl
                have w402 : (u2 dt380 83 (((4 * (dt380 79 10)) + 3).toNat) (dt380 79 11)) 79 9 = dt380 79 9 := rfl
                have w403 : (u2 dt380 83 (((4 * (dt380 79 10)) + 3).toNat) (dt380 79 11)) 79 10 = dt380 79 10 := rfl
                have w404 : (u2 dt380 83 (((4 * (dt380 79 10)) + 3).toNat) (dt380 79 11)) 79 11 = dt380 79 11 := rfl
                have w405 : (u2 dt380 83 (((4 * (dt380 79 10)) + 3).toNat) (dt380 79 11)) 79 12 = dt380 79 12 := rfl
                have w406 : (u2 dt380 83 (((4 * (dt380 79 10)) + 3).toNat) (dt380 79 11)) 79 13 = dt380 79 13 := rfl
                have w407 : (u2 dt380 83 (((4 * (dt380 79 10)) + 3).toNat) (dt380 79 11)) 79 14 = dt380 79 14 := rfl
                have w408 : (u2 dt380 83 (((4 * (dt380 79 10)) + 3).toNat) (dt380 79 11)) 79 15 = dt380 79 15 := rfl
                have w409 : (u2 dt380 83 (((4 * (dt380 79 10)) + 3).toNat) (dt380 79 11)) 79 16 = dt380 79 16 := rfl
                have w410 : (u2 dt380 83 (((4 * (dt380 79 10)) + 3).toNat) (dt380 79 11)) 79 17 = dt380 79 17 := rfl
                have w411 : (u2 dt380 83 (((4 * (dt380 79 10)) + 3).toNat) (dt380 79 11)) 79 18 = dt380 79 18 := rfl
                have w412 : (u2 dt380 83 (((4 * (dt380 79 10)) + 3).toNat) (dt380 79 11)) 79 20 = dt380 79 20 := rfl
                have hc413 : CUR 1 b n (u2 dt380 83 (((4 * (dt380 79 10)) + 3).toNat) (dt380 79 11)) j386 := CUR_sm hc388 rfl rfl rfl rfl
                refine go_smpq PM173 (L' := [some (.inr (.inr (some 79))), some (.inl 1)]) (st' := []) (w' := (SH, (u2 dt380 83 (((4 * (dt380 79 10)) + 3).toNat) (dt380 79 11)))) rfl rfl (s_iast (n := 64) rfl ⟨by omega, by omega⟩ (by first | exact bnd r398 (by decide) (by decide) | exact ⟨by omega, by omega⟩)) ?_
                refine go_toq PM173 (k := 2) (pc' := 188) (L' := [some (.inr (.inr (some 79))), some (.inl 1)]) (st' := [.inl 159, .inr (.inr (some 79))]) (w' := (SH, (u2 dt380 83 (((4 * (dt380 79 10)) + 3).toNat) (dt380 79 11)))) rfl ?_
                refine go_callq PM173 PM161 (Q' := _) rfl rfl rfl rfl (sp_X6_need0_g1 L xs sio (d + 29) (u2 dt380 83 (((4 * (dt380 79 10)) + 3).toNat) (dt380 79 11)) hI399 b n t j386 (by first | exact hbb | (rw [show (u2 dt380 83 (((4 * (dt380 79 10)) + 3).toNat) (dt380 79 11)) 85 = dt 85 from funext (hF400 85 (by decide)), show (u2 dt380 83 (((4 * (dt380 79 10)) + 3).toNat) (dt380 79 11)) 79 12 = dt 79 12 by omega]; exact hbb)) (by omega) hz ht hc413 hi390 hn5 159 ⟨by decide, by decide⟩ (by first | exact True.intro | rfl | omega | trivial)) ?_
                rintro _ _ ⟨dt415, rfl, hI416, hF417, h414⟩
                refine ⟨rfl, ?_⟩
                have hF418 : Fr [79, 83, 84] dt dt415 := Fr_tr hF400 hF417 (by decide)
                rcases h414 with ⟨rfl, h414⟩ | ⟨rfl, h414⟩
                · skip
                  obtain ⟨h414_0, h414_1, h414_2, h414_3, h414_4⟩ := h414
                  have fl419 := RSX_0 h414_0 rfl
                  have fe420 : (gLF (KF 1 b n) (VF b n) (dt 79 10)) i = (gK (KF 1 b n) (159 - 100)) j386 := hp389.trans ((show (gK (KF 1 b n) 59) j386 = gB ((gK (KF 1 b n) (159 - 100)) j386) gOk by first | exact gB_id.symm | exact gL2_n (by omega)).trans (gB_no fl419.1))
                  refine go_retq PM173 (k := 0) (r := some (.inl 0)) (w1 := (SH, dt415)) rfl ?_
                  exact ⟨dt415, rfl, hI416, hF418, (Or.inl ⟨rfl, ⟨by exact RSX_f fe420 fl419 (by omega) (by omega), by first | exact True.intro | rfl | omega | trivial, by first | exact True.intro | rfl | omega | trivial, by first | exact True.intro | rfl | omega | trivial, by first | exact True.intro | rfl | omega | trivial⟩⟩)⟩
                · skip
                  obtain ⟨h414_0, h414_1, h414_2, h414_3, h414_4, h414_5, h414_6, h414_7, h414_8, h414_9⟩ := h414
                  obtain ⟨j421, ej422, hc423⟩ := RSX_1 h414_0 (by decide)
                  have hp424 : (gLF (KF 1 b n) (VF b n) (dt 79 10)) i = gOk j421 := hp389.trans ((show (gK (KF 1 b n) 59) j386 = gB ((gK (KF 1 b n) (159 - 100)) j386) gOk by first | exact gB_id.symm | exact gL2_n (by omega)).trans (by rw [ej422]; exact gB_0))
                  have hi425 : j421 ≤ t := by have z := (fun (h : KZ (KF 1 b n) t) => gK_M (K := (KF 1 b n)) (k := 159 - 100) (i := j386) h (by decide)) hz; rw [ej422] at z; have y := z rfl; simp only at y; omega
                  clear cr391 cb392 cv393 ck394
                  have cr426 := CUR_R hc423 (.inr rfl)
                  have cb427 := CUR_b hc423
                  have cv428 := CUR_v hc423
                  have ck429 := KZ_lt (i := j421) hz
                  have c1430 := (hc423).1
                  have ci431 := hi425
                  refine go_retq PM173 (k := 0) (r := some (.inl 1)) (w1 := (SH, dt415)) rfl ?_
                  exact ⟨dt415, rfl, hI416, hF418, (Or.inr ⟨rfl, ⟨by exact RSX_ok (hp424.trans (by rfl)) hc423, by first | exact True.intro | rfl | omega | trivial, by first | exact True.intro | rfl | omega | trivial, by first | exact True.intro | rfl | omega | trivial, by first | exact True.intro | rfl | omega | trivial, by exact (InvC_get (by assumption) 79 15 rfl rfl).2, by first | exact True.intro | rfl | omega | trivial, by first | exact True.intro | rfl | omega | trivial, by first | exact True.intro | rfl | omega | trivial, by first | exact True.intro | rfl | omega | trivial, by first | exact True.intro | rfl | omega | trivial⟩⟩)⟩
    · skip
      refine go_toq PM173 (k := 2) (pc' := 35) (L' := [some (.inr (.inr (some 79))), none]) (st' := [.inl 3, .inr (.inr (some 79))]) (w' := (SH, dt)) rfl ?_
      refine go_callq PM173 PM160 (Q' := _) rfl rfl rfl rfl (sp_X6_bad_g L xs sio (d + 36) dt hI  3 ⟨by decide, by decide⟩ ) ?_
      rintro _ _ ⟨dt433, rfl, hI434, hF435, h432⟩
      refine ⟨rfl, ?_⟩
      have hF436 : Fr [79, 83, 84] dt dt433 := Fr_tr hF hF435 (by decide)
      rcases h432 with ⟨rfl, h432⟩
      obtain ⟨h432_0, h432_1, h432_2, h432_3, h432_4, h432_5, h432_6, h432_7, h432_8, h432_9, h432_10, h432_11⟩ := h432
      have hc437 : CUR 1 b n dt433 i := CUR_sm hc (by omega) (by omega) (by omega) (by omega)
      refine go_retq PM173 (k := 0) (r := some (.inl 0)) (w1 := (SH, dt433)) rfl ?_
      exact ⟨dt433, rfl, hI434, hF436, (Or.inl ⟨rfl, ⟨by exact RSX_no (k := 3) (j := i) ((rfl : (gLF (KF 1 b n) (VF b n) (dt 79 10)) i = (gLF (KF 1 b n) (VF b n) (dt 79 10)) i).trans (by show gLF _ _ _ _ = _; unfold gLF; rw [if_neg (by omega), if_pos (by omega)])) (by decide) (by omega) (by show _ = ((TP b n i : Nat) : Int); omega), by first | exact True.intro | rfl | omega | trivial, by first | exact True.intro | rfl | omega | trivial, by first | exact True.intro | rfl | omega | trivial, by first | exact True.intro | rfl | omega | trivial⟩⟩)⟩
  · skip
    refine go_ifq PM173 (k := 3) (p1 := 24) (p2 := 18) (L' := [some (.inr (.inr (some 79))), none]) (st' := []) (w' := (SH, dt)) rfl (c_eq (a := dt 79 14) (b := 8) (by first | exact bnd r4 (by decide) (by decide) | exact ⟨by omega, by omega⟩) ⟨by decide, by decide⟩) (fun c438 => ?_) (fun c438 => ?_)
    · skip
      refine go_ifq PM173 (k := 3) (p1 := 39) (p2 := 33) (L' := [some (.inr (.inr (some 79))), none]) (st' := []) (w' := (SH, dt)) rfl (c_ne (a := dt 79 10) (b := 16) (by first | exact bnd r3 (by decide) (by decide) | exact ⟨by omega, by omega⟩) ⟨by decide, by decide⟩) (fun c439 => ?_) (fun c439 => ?_)
      · skip
        refine go_ifq PM173 (k := 3) (p1 := 52) (p2 := 48) (L' := [some (.inr (.inr (some 79))), none]) (st' := []) (w' := (SH, dt)) rfl (c_ne (a := dt 79 14) (b := 7) (by first | exact bnd r4 (by decide) (by decide) | exact ⟨by omega, by omega⟩) ⟨by decide, by decide⟩) (fun c440 => ?_) (fun c440 => ?_)
        · skip
          refine go_toq PM173 (k := 4) (pc' := 56) (L' := [some (.inr (.inr (some 79))), some (.inl 0)]) (st' := [.inl 0, .inr (.inr (some 79))]) (w' := (SH, dt)) rfl ?_
          have hI441 : InvC (u2 dt 79 20 0) := InvC_u2 hI (lo := 0) (hi := 8) rfl rfl rfl (by decide) (by decide)
          have hF442 : Fr [79, 83, 84] dt (u2 dt 79 20 0) := Fr_u2 hF (by decide)
          have w443 : (u2 dt 79 20 0) 79 2 = dt 79 2 := rfl
          have w444 : (u2 dt 79 20 0) 79 9 = dt 79 9 := rfl
          have w445 : (u2 dt 79 20 0) 79 10 = dt 79 10 := rfl
          have w446 : (u2 dt 79 20 0) 79 11 = dt 79 11 := rfl
          have w447 : (u2 dt 79 20 0) 79 12 = dt 79 12 := rfl
          have w448 : (u2 dt 79 20 0) 79 13 = dt 79 13 := rfl
          have w449 : (u2 dt 79 20 0) 79 14 = dt 79 14 := rfl
          have w450 : (u2 dt 79 20 0) 79 15 = dt 79 15 := rfl
          have w451 : (u2 dt 79 20 0) 79 16 = dt 79 16 := rfl
          have w452 : (u2 dt 79 20 0) 79 17 = dt 79 17 := rfl
          have w453 : (u2 dt 79 20 0) 79 18 = dt 79 18 := rfl
          have w454 : (u2 dt 79 20 0) 79 20 = 0 := rfl
          have hc455 : CUR 1 b n (u2 dt 79 20 0) i := CUR_sm hc rfl rfl rfl rfl
          refine go_smpq PM173 (L' := [some (.inr (.inr (some 79))), some (.inl 0)]) (st' := []) (w' := (SH, (u2 dt 79 20 0))) rfl rfl (s_pf rfl rfl rfl rfl ⟨by decide, by decide⟩) ?_
          refine go_toq PM173 (k := 1) (pc' := 60) (L' := [some (.inr (.inr (some 79))), some (.inl 0)]) (st' := [.inr (.inr (some 79))]) (w' := (SH, (u2 dt 79 20 0))) rfl ?_
          refine go_callq PM173 PM159 (Q' := _) rfl rfl rfl rfl (sp_X6_next0_p1 L xs sio (d + 30) (u2 dt 79 20 0) hI441   (by first | exact True.intro | rfl | omega | trivial) (by first | exact True.intro | rfl | omega | trivial)) ?_
          rintro _ _ ⟨dt457, rfl, hI458, hF459, h456⟩
          refine ⟨rfl, ?_⟩
          have hF460 : Fr [79, 83, 84] dt dt457 := Fr_tr hF442 hF459 (by decide)
          rcases h456 with ⟨rfl, h456⟩
          obtain ⟨h456_0, h456_1, h456_2, h456_3, h456_4, h456_5, h456_6, h456_7, h456_8⟩ := h456
          have hq461 := h456_0
          rw [show (u2 dt 79 20 0) 85 = dt 85 from funext (hF442 85 (by decide)), show (u2 dt 79 20 0) 79 12 = dt 79 12 by omega, hbb, show (dt 79 12).toNat = n by omega] at hq461
          have hc462 : CUR 1 b n dt457 (i + 1) := CUR_n hc455 hq461
          have hi463 : i + 1 ≤ t := by omega
          have av464 : (u2 dt 79 20 0) 79 15 + 1 ≤ (u2 dt 79 20 0) 79 13 := by omega
          have kk_ : KF 1 b n i = 1001 := by omega
          have hp465 : (gLF (KF 1 b n) (VF b n) (dt 79 10)) i = (gL1 (KF 1 b n) (VF b n)) (i + 1) := (rfl : (gLF (KF 1 b n) (VF b n) (dt 79 10)) i = (gLF (KF 1 b n) (VF b n) (dt 79 10)) i).trans (by show gLF _ _ _ _ = _; unfold gLF; rw [if_neg (by omega), if_neg (by omega)]; exact gLine_p (by omega))
          clear cr0 cb0 cv0 ck0
          have cr466 := CUR_R hc462 (.inr rfl)
          have cb467 := CUR_b hc462
          have cv468 := CUR_v hc462
          have ck469 := KZ_lt (i := (i + 1)) hz
          have c1470 := (hc462).1
          have ci471 := hi463
          have r472 : 0 ≤ dt457 79 10 ∧ dt457 79 10 ≤ 24 := InvC_get hI458 79 10 rfl rfl
          refine go_toq PM173 (k := 9) (pc' := 86) (L' := [some (.inr (.inr (some 79))), some (.inl 0)]) (st' := [.inl 8, .inl (4 * (dt457 79 10)), .inr (.inr (some 83))]) (w' := (SH, dt457)) rfl ?_
          have hI473 : InvC (u2 dt457 83 ((4 * (dt457 79 10)).toNat) 8) := InvC_u2 hI458 (lo := -2147483648) (hi := 2147483647) rfl rfl rfl (by decide) (by decide)
          have hF474 : Fr [79, 83, 84] dt (u2 dt457 83 ((4 * (dt457 79 10)).toNat) 8) := Fr_u2 hF460 (by decide)
          have w475 : (u2 dt457 83 ((4 * (dt457 79 10)).toNat) 8) 79 2 = dt457 79 2 := rfl
          have w476 : (u2 dt457 83 ((4 * (dt457 79 10)).toNat) 8) 79 9 = dt457 79 9 := rfl
          have w477 : (u2 dt457 83 ((4 * (dt457 79 10)).toNat) 8) 79 10 = dt457 79 10 := rfl
          have w478 : (u2 dt457 83 ((4 * (dt457 79 10)).toNat) 8) 79 11 = dt457 79 11 := rfl
          have w479 : (u2 dt457 83 ((4 * (dt457 79 10)).toNat) 8) 79 12 = dt457 79 12 := rfl
          have w480 : (u2 dt457 83 ((4 * (dt457 79 10)).toNat) 8) 79 13 = dt457 79 13 := rfl
          have w481 : (u2 dt457 83 ((4 * (dt457 79 10)).toNat) 8) 79 14 = dt457 79 14 := rfl
          have w482 : (u2 dt457 83 ((4 * (dt457 79 10)).toNat) 8) 79 15 = dt457 79 15 := rfl
          have w483 : (u2 dt457 83 ((4 * (dt457 79 10)).toNat) 8) 79 16 = dt457 79 16 := rfl
          have w484 : (u2 dt457 83 ((4 * (dt457 79 10)).toNat) 8) 79 17 = dt457 79 17 := rfl
          have w485 : (u2 dt457 83 ((4 * (dt457 79 10)).toNat) 8) 79 18 = dt457 79 18 := rfl
          have w486 : (u2 dt457 83 ((4 * (dt457 79 10)).toNat) 8) 79 20 = dt457 79 20 := rfl
          have hc487 : CUR 1 b n (u2 dt457 83 ((4 * (dt457 79 10)).toNat) 8) (i + 1) := CUR_sm hc462 rfl rfl rfl rfl
          refine go_smpq PM173 (L' := [some (.inr (.inr (some 79))), some (.inl 0)]) (st' := []) (w' := (SH, (u2 dt457 83 ((4 * (dt457 79 10)).toNat) 8))) rfl rfl (s_iast (n := 64) rfl ⟨by omega, by omega⟩ ⟨by decide, by decide⟩) ?_
          have r488 : 0 ≤ dt457 79 11 ∧ dt457 79 11 ≤ 510 := InvC_get hI458 79 11 rfl rfl
          refine go_toq PM173 (k := 12) (pc' := 119) (L' := [some (.inr (.inr (some 79))), some (.inl 0)]) (st' := [.inl (dt457 79 11), .inl ((4 * (dt457 79 10)) + 1), .inr (.inr (some 83))]) (w' := (SH, (u2 dt457 83 ((4 * (dt457 79 10)).toNat) 8))) rfl ?_
          have hI489 : InvC (u2 (u2 dt457 83 ((4 * (dt457 79 10)).toNat) 8) 83 (((4 * (dt457 79 10)) + 1).toNat) (dt457 79 11)) := InvC_u2 hI473 (lo := -2147483648) (hi := 2147483647) rfl rfl rfl (by first | exact bnd1 r488 (by decide) | omega) (by first | exact bnd2 r488 (by decide) | omega)
          have hF490 : Fr [79, 83, 84] dt (u2 (u2 dt457 83 ((4 * (dt457 79 10)).toNat) 8) 83 (((4 * (dt457 79 10)) + 1).toNat) (dt457 79 11)) := Fr_u2 hF474 (by decide)
          have w491 : (u2 (u2 dt457 83 ((4 * (dt457 79 10)).toNat) 8) 83 (((4 * (dt457 79 10)) + 1).toNat) (dt457 79 11)) 79 2 = (u2 dt457 83 ((4 * (dt457 79 10)).toNat) 8) 79 2 := rfl
          have w492 : (u2 (u2 dt457 83 ((4 * (dt457 79 10)).toNat) 8) 83 (((4 * (dt457 79 10)) + 1).toNat) (dt457 79 11)) 79 9 = (u2 dt457 83 ((4 * (dt457 79 10)).toNat) 8) 79 9 := rfl
          have w493 : (u2 (u2 dt457 83 ((4 * (dt457 79 10)).toNat) 8) 83 (((4 * (dt457 79 10)) + 1).toNat) (dt457 79 11)) 79 10 = (u2 dt457 83 ((4 * (dt457 79 10)).toNat) 8) 79 10 := rfl
          have w494 : (u2 (u2 dt457 83 ((4 * (dt457 79 10)).toNat) 8) 83 (((4 * (dt457 79 10)) + 1).toNat) (dt457 79 11)) 79 11 = (u2 dt457 83 ((4 * (dt457 79 10)).toNat) 8) 79 11 := rfl
          have w495 : (u2 (u2 dt457 83 ((4 * (dt457 79 10)).toNat) 8) 83 (((4 * (dt457 79 10)) + 1).toNat) (dt457 79 11)) 79 12 = (u2 dt457 83 ((4 * (dt457 79 10)).toNat) 8) 79 12 := rfl
          have w496 : (u2 (u2 dt457 83 ((4 * (dt457 79 10)).toNat) 8) 83 (((4 * (dt457 79 10)) + 1).toNat) (dt457 79 11)) 79 13 = (u2 dt457 83 ((4 * (dt457 79 10)).toNat) 8) 79 13 := rfl
          have w497 : (u2 (u2 dt457 83 ((4 * (dt457 79 10)).toNat) 8) 83 (((4 * (dt457 79 10)) + 1).toNat) (dt457 79 11)) 79 14 = (u2 dt457 83 ((4 * (dt457 79 10)).toNat) 8) 79 14 := rfl
          have w498 : (u2 (u2 dt457 83 ((4 * (dt457 79 10)).toNat) 8) 83 (((4 * (dt457 79 10)) + 1).toNat) (dt457 79 11)) 79 15 = (u2 dt457 83 ((4 * (dt457 79 10)).toNat) 8) 79 15 := rfl
          have w499 : (u2 (u2 dt457 83 ((4 * (dt457 79 10)).toNat) 8) 83 (((4 * (dt457 79 10)) + 1).toNat) (dt457 79 11)) 79 16 = (u2 dt457 83 ((4 * (dt457 79 10)).toNat) 8) 79 16 := rfl
          have w500 : (u2 (u2 dt457 83 ((4 * (dt457 79 10)).toNat) 8) 83 (((4 * (dt457 79 10)) + 1).toNat) (dt457 79 11)) 79 17 = (u2 dt457 83 ((4 * (dt457 79 10)).toNat) 8) 79 17 := rfl
          have w501 : (u2 (u2 dt457 83 ((4 * (dt457 79 10)).toNat) 8) 83 (((4 * (dt457 79 10)) + 1).toNat) (dt457 79 11)) 79 18 = (u2 dt457 83 ((4 * (dt457 79 10)).toNat) 8) 79 18 := rfl
          have w502 : (u2 (u2 dt457 83 ((4 * (dt457 79 10)).toNat) 8) 83 (((4 * (dt457 79 10)) + 1).toNat) (dt457 79 11)) 79 20 = (u2 dt457 83 ((4 * (dt457 79 10)).toNat) 8) 79 20 := rfl
          have hc503 : CUR 1 b n (u2 (u2 dt457 83 ((4 * (dt457 79 10)).toNat) 8) 83 (((4 * (dt457 79 10)) + 1).toNat) (dt457 79 11)) (i + 1) := CUR_sm hc487 rfl rfl rfl rfl
          refine go_smpq PM173 (L' := [some (.inr (.inr (some 79))), some (.inl 0)]) (st' := []) (w' := (SH, (u2 (u2 dt457 83 ((4 * (dt457 79 10)).toNat) 8) 83 (((4 * (dt457 79 10)) + 1).toNat) (dt457 79 11)))) rfl rfl (s_iast (n := 64) rfl ⟨by omega, by omega⟩ (by first | exact bnd r488 (by decide) (by decide) | exact ⟨by omega, by omega⟩)) ?_
          refine go_toq PM173 (k := 1) (pc' := 121) (L' := [some (.inr (.inr (some 79))), some (.inl 0)]) (st' := [.inr (.inr (some 79))]) (w' := (SH, (u2 (u2 dt457 83 ((4 * (dt457 79 10)).toNat) 8) 83 (((4 * (dt457 79 10)) + 1).toNat) (dt457 79 11)))) rfl ?_
          refine go_callq PM173 PM165 (Q' := _) rfl rfl rfl rfl (sp_X6_sumUp_g L xs sio (d + 27) (u2 (u2 dt457 83 ((4 * (dt457 79 10)).toNat) 8) 83 (((4 * (dt457 79 10)) + 1).toNat) (dt457 79 11)) hI489 b n t (i + 1) (by first | exact hbb | (rw [show (u2 (u2 dt457 83 ((4 * (dt457 79 10)).toNat) 8) 83 (((4 * (dt457 79 10)) + 1).toNat) (dt457 79 11)) 85 = dt 85 from funext (hF490 85 (by decide)), show (u2 (u2 dt457 83 ((4 * (dt457 79 10)).toNat) 8) 83 (((4 * (dt457 79 10)) + 1).toNat) (dt457 79 11)) 79 12 = dt 79 12 by omega]; exact hbb)) (by omega) hz ht hc503 hi463 hn5  (by first | exact True.intro | rfl | omega | trivial) (by first | exact True.intro | rfl | omega | trivial)) ?_
          rintro _ _ ⟨dt505, rfl, hI506, hF507, h504⟩
          refine ⟨rfl, ?_⟩
          have hF508 : Fr [79, 83, 84] dt dt505 := Fr_tr hF490 hF507 (by decide)
          rcases h504 with ⟨rfl, h504⟩ | ⟨rfl, h504⟩
          · skip
            obtain ⟨h504_0, h504_1, h504_2, h504_3, h504_4⟩ := h504
            have fl509 := RSX_0 h504_0 rfl
            have fe510 : (gLF (KF 1 b n) (VF b n) (dt 79 10)) i = (gE (KF 1 b n) (VF b n)) (i + 1) := hp465.trans ((show (gL1 (KF 1 b n) (VF b n)) (i + 1) = gB ((gE (KF 1 b n) (VF b n)) (i + 1)) (gL2 (KF 1 b n) (VF b n)) by rfl).trans (gB_no fl509.1))
            refine go_retq PM173 (k := 2) (r := some (.inl 0)) (w1 := (SH, dt505)) rfl ?_
            exact ⟨dt505, rfl, hI506, hF508, (Or.inl ⟨rfl, ⟨by exact RSX_f fe510 fl509 (by omega) (by omega), by first | exact True.intro | rfl | omega | trivial, by first | exact True.intro | rfl | omega | trivial, by first | exact True.intro | rfl | omega | trivial, by first | exact True.intro | rfl | omega | trivial⟩⟩)⟩
          · skip
            obtain ⟨h504_0, h504_1, h504_2, h504_3, h504_4, h504_5, h504_6, h504_7, h504_8, h504_9⟩ := h504
            obtain ⟨j511, ej512, hc513⟩ := RSX_1 h504_0 (by decide)
            have hp514 : (gLF (KF 1 b n) (VF b n) (dt 79 10)) i = (gL2 (KF 1 b n) (VF b n)) j511 := hp465.trans ((show (gL1 (KF 1 b n) (VF b n)) (i + 1) = gB ((gE (KF 1 b n) (VF b n)) (i + 1)) (gL2 (KF 1 b n) (VF b n)) by rfl).trans (by rw [ej512]; exact gB_0))
            have hi515 : j511 ≤ t := by have z := gE_M (K := (KF 1 b n)) (V := (VF b n)) (i := (i + 1)) hz; rw [ej512] at z; have y := z rfl; simp only at y; omega
            clear cr466 cb467 cv468 ck469
            have cr516 := CUR_R hc513 (.inr rfl)
            have cb517 := CUR_b hc513
            have cv518 := CUR_v hc513
            have ck519 := KZ_lt (i := j511) hz
            have c1520 := (hc513).1
            have ci521 := hi515
            have r522 : 0 ≤ dt505 79 10 ∧ dt505 79 10 ≤ 24 := InvC_get hI506 79 10 rfl rfl
            have r523 : 0 ≤ dt505 79 11 ∧ dt505 79 11 ≤ 510 := InvC_get hI506 79 11 rfl rfl
            refine go_toq PM173 (k := 11) (pc' := 145) (L' := [some (.inr (.inr (some 79))), some (.inl 0)]) (st' := [.inl (dt505 79 11), .inl ((4 * (dt505 79 10)) + 2), .inr (.inr (some 83))]) (w' := (SH, dt505)) rfl ?_
            have hI524 : InvC (u2 dt505 83 (((4 * (dt505 79 10)) + 2).toNat) (dt505 79 11)) := InvC_u2 hI506 (lo := -2147483648) (hi := 2147483647) rfl rfl rfl (by first | exact bnd1 r523 (by decide) | omega) (by first | exact bnd2 r523 (by decide) | omega)
            have hF525 : Fr [79, 83, 84] dt (u2 dt505 83 (((4 * (dt505 79 10)) + 2).toNat) (dt505 79 11)) := Fr_u2 hF508 (by decide)
            have w526 : (u2 dt505 83 (((4 * (dt505 79 10)) + 2).toNat) (dt505 79 11)) 79 2 = dt505 79 2 := rfl
            have w527 : (u2 dt505 83 (((4 * (dt505 79 10)) + 2).toNat) (dt505 79 11)) 79 9 = dt505 79 9 := rfl
            have w528 : (u2 dt505 83 (((4 * (dt505 79 10)) + 2).toNat) (dt505 79 11)) 79 10 = dt505 79 10 := rfl
            have w529 : (u2 dt505 83 (((4 * (dt505 79 10)) + 2).toNat) (dt505 79 11)) 79 11 = dt505 79 11 := rfl
            have w530 : (u2 dt505 83 (((4 * (dt505 79 10)) + 2).toNat) (dt505 79 11)) 79 12 = dt505 79 12 := rfl
            have w531 : (u2 dt505 83 (((4 * (dt505 79 10)) + 2).toNat) (dt505 79 11)) 79 13 = dt505 79 13 := rfl
            have w532 : (u2 dt505 83 (((4 * (dt505 79 10)) + 2).toNat) (dt505 79 11)) 79 14 = dt505 79 14 := rfl
            have w533 : (u2 dt505 83 (((4 * (dt505 79 10)) + 2).toNat) (dt505 79 11)) 79 15 = dt505 79 15 := rfl
            have w534 : (u2 dt505 83 (((4 * (dt505 79 10)) + 2).toNat) (dt505 79 11)) 79 16 = dt505 79 16 := rfl
            have w535 : (u2 dt505 83 (((4 * (dt505 79 10)) + 2).toNat) (dt505 79 11)) 79 17 = dt505 79 17 := rfl
            have w536 : (u2 dt505 83 (((4 * (dt505 79 10)) + 2).toNat) (dt505 79 11)) 79 18 = dt505 79 18 := rfl
            have w537 : (u2 dt505 83 (((4 * (dt505 79 10)) + 2).toNat) (dt505 79 11)) 79 20 = dt505 79 20 := rfl
            have hc538 : CUR 1 b n (u2 dt505 83 (((4 * (dt505 79 10)) + 2).toNat) (dt505 79 11)) j511 := CUR_sm hc513 rfl rfl rfl rfl
            refine go_smpq PM173 (L' := [some (.inr (.inr (some 79))), some (.inl 0)]) (st' := []) (w' := (SH, (u2 dt505 83 (((4 * (dt505 79 10)) + 2).toNat) (dt505 79 11)))) rfl rfl (s_iast (n := 64) rfl ⟨by omega, by omega⟩ (by first | exact bnd r523 (by decide) (by decide) | exact ⟨by omega, by omega⟩)) ?_
            have r539 : (-2147483648) ≤ dt505 79 14 ∧ dt505 79 14 ≤ 2147483647 := InvC_get hI506 79 14 rfl rfl
            refine go_ifq PM173 (k := 3) (p1 := 167) (p2 := 154) (L' := [some (.inr (.inr (some 79))), some (.inl 0)]) (st' := []) (w' := (SH, (u2 dt505 83 (((4 * (dt505 79 10)) + 2).toNat) (dt505 79 11)))) rfl (c_ne (a := dt505 79 14) (b := 3) (by first | exact bnd r539 (by decide) (by decide) | exact ⟨by omega, by omega⟩) ⟨by decide, by decide⟩) (fun c540 => ?_) (fun c540 => ?_)
            · skip
              refine go_toq PM173 (k := 10) (pc' := 183) (L' := [some (.inr (.inr (some 79))), some (.inl 0)]) (st' := [.inl (dt505 79 11), .inl ((4 * (dt505 79 10)) + 3), .inr (.inr (some 83))]) (w' := (SH, (u2 dt505 83 (((4 * (dt505 79 10)) + 2).toNat) (dt505 79 11)))) rfl ?_
              have hI541 : InvC (u2 (u2 dt505 83 (((4 * (dt505 79 10)) + 2).toNat) (dt505 79 11)) 83 (((4 * (dt505 79 10)) + 3).toNat) (dt505 79 11)) := InvC_u2 hI524 (lo := -2147483648) (hi := 2147483647) rfl rfl rfl (by first | exact bnd1 r523 (by decide) | omega) (by first | exact bnd2 r523 (by decide) | omega)
              have hF542 : Fr [79, 83, 84] dt (u2 (u2 dt505 83 (((4 * (dt505 79 10)) + 2).toNat) (dt505 79 11)) 83 (((4 * (dt505 79 10)) + 3).toNat) (dt505 79 11)) := Fr_u2 hF525 (by decide)
              have w543 : (u2 (u2 dt505 83 (((4 * (dt505 79 10)) + 2).toNat) (dt505 79 11)) 83 (((4 * (dt505 79 10)) + 3).toNat) (dt505 79 11)) 79 2 = (u2 dt505 83 (((4 * (dt505 79 10)) + 2).toNat) (dt505 79 11)) 79 2 := rfl
              have w544 : (u2 (u2 dt505 83 (((4 * (dt505 79 10)) + 2).toNat) (dt505 79 11)) 83 (((4 * (dt505 79 10)) + 3).toNat) (dt505 79 11)) 79 9 = (u2 dt505 83 (((4 * (dt505 79 10)) + 2).toNat) (dt505 79 11)) 79 9 := rfl
              have w545 : (u2 (u2 dt505 83 (((4 * (dt505 79 10)) + 2).toNat) (dt505 79 11)) 83 (((4 * (dt505 79 10)) + 3).toNat) (dt505 79 11)) 79 10 = (u2 dt505 83 (((4 * (dt505 79 10)) + 2).toNat) (dt505 79 11)) 79 10 := rfl
              have w546 : (u2 (u2 dt505 83 (((4 * (dt505 79 10)) + 2).toNat) (dt505 79 11)) 83 (((4 * (dt505 79 10)) + 3).toNat) (dt505 79 11)) 79 11 = (u2 dt505 83 (((4 * (dt505 79 10)) + 2).toNat) (dt505 79 11)) 79 11 := rfl
              have w547 : (u2 (u2 dt505 83 (((4 * (dt505 79 10)) + 2).toNat) (dt505 79 11)) 83 (((4 * (dt505 79 10)) + 3).toNat) (dt505 79 11)) 79 12 = (u2 dt505 83 (((4 * (dt505 79 10)) + 2).toNat) (dt505 79 11)) 79 12 := rfl
              have w548 : (u2 (u2 dt505 83 (((4 * (dt505 79 10)) + 2).toNat) (dt505 79 11)) 83 (((4 * (dt505 79 10)) + 3).toNat) (dt505 79 11)) 79 13 = (u2 dt505 83 (((4 * (dt505 79 10)) + 2).toNat) (dt505 79 11)) 79 13 := rfl
              have w549 : (u2 (u2 dt505 83 (((4 * (dt505 79 10)) + 2).toNat) (dt505 79 11)) 83 (((4 * (dt505 79 10)) + 3).toNat) (dt505 79 11)) 79 14 = (u2 dt505 83 (((4 * (dt505 79 10)) + 2).toNat) (dt505 79 11)) 79 14 := rfl
              have w550 : (u2 (u2 dt505 83 (((4 * (dt505 79 10)) + 2).toNat) (dt505 79 11)) 83 (((4 * (dt505 79 10)) + 3).toNat) (dt505 79 11)) 79 15 = (u2 dt505 83 (((4 * (dt505 79 10)) + 2).toNat) (dt505 79 11)) 79 15 := rfl
              have w551 : (u2 (u2 dt505 83 (((4 * (dt505 79 10)) + 2).toNat) (dt505 79 11)) 83 (((4 * (dt505 79 10)) + 3).toNat) (dt505 79 11)) 79 16 = (u2 dt505 83 (((4 * (dt505 79 10)) + 2).toNat) (dt505 79 11)) 79 16 := rfl
              have w552 : (u2 (u2 dt505 83 (((4 * (dt505 79 10)) + 2).toNat) (dt505 79 11)) 83 (((4 * (dt505 79 10)) + 3).toNat) (dt505 79 11)) 79 17 = (u2 dt505 83 (((4 * (dt505 79 10)) + 2).toNat) (dt505 79 11)) 79 17 := rfl
              have w553 : (u2 (u2 dt505 83 (((4 * (dt505 79 10)) + 2).toNat) (dt505 79 11)) 83 (((4 * (dt505 79 10)) + 3).toNat) (dt505 79 11)) 79 18 = (u2 dt505 83 (((4 * (dt505 79 10)) + 2).toNat) (dt505 79 11)) 79 18 := rfl
              have w554 : (u2 (u2 dt505 83 (((4 * (dt505 79 10)) + 2).toNat) (dt505 79 11)) 83 (((4 * (dt505 79 10)) + 3).toNat) (dt505 79 11)) 79 20 = (u2 dt505 83 (((4 * (dt505 79 10)) + 2).toNat) (dt505 79 11)) 79 20 := rfl
              have hc555 : CUR 1 b n (u2 (u2 dt505 83 (((4 * (dt505 79 10)) + 2).toNat) (dt505 79 11)) 83 (((4 * (dt505 79 10)) + 3).toNat) (dt505 79 11)) j511 := CUR_sm hc538 rfl rfl rfl rfl
              refine go_smpq PM173 (L' := [some (.inr (.inr (some 79))), some (.inl 0)]) (st' := []) (w' := (SH, (u2 (u2 dt505 83 (((4 * (dt505 79 10)) + 2).toNat) (dt505 79 11)) 83 (((4 * (dt505 79 10)) + 3).toNat) (dt505 79 11)))) rfl rfl (s_iast (n := 64) rfl ⟨by omega, by omega⟩ (by first | exact bnd r523 (by decide) (by decide) | exact ⟨by omega, by omega⟩)) ?_
              refine go_toq PM173 (k := 2) (pc' := 188) (L' := [some (.inr (.inr (some 79))), some (.inl 0)]) (st' := [.inl 159, .inr (.inr (some 79))]) (w' := (SH, (u2 (u2 dt505 83 (((4 * (dt505 79 10)) + 2).toNat) (dt505 79 11)) 83 (((4 * (dt505 79 10)) + 3).toNat) (dt505 79 11)))) rfl ?_
              refine go_callq PM173 PM161 (Q' := _) rfl rfl rfl rfl (sp_X6_need0_g1 L xs sio (d + 29) (u2 (u2 dt505 83 (((4 * (dt505 79 10)) + 2).toNat) (dt505 79 11)) 83 (((4 * (dt505 79 10)) + 3).toNat) (dt505 79 11)) hI541 b n t j511 (by first | exact hbb | (rw [show (u2 (u2 dt505 83 (((4 * (dt505 79 10)) + 2).toNat) (dt505 79 11)) 83 (((4 * (dt505 79 10)) + 3).toNat) (dt505 79 11)) 85 = dt 85 from funext (hF542 85 (by decide)), show (u2 (u2 dt505 83 (((4 * (dt505 79 10)) + 2).toNat) (dt505 79 11)) 83 (((4 * (dt505 79 10)) + 3).toNat) (dt505 79 11)) 79 12 = dt 79 12 by omega]; exact hbb)) (by omega) hz ht hc555 hi515 hn5 159 ⟨by decide, by decide⟩ (by first | exact True.intro | rfl | omega | trivial)) ?_
              rintro _ _ ⟨dt557, rfl, hI558, hF559, h556⟩
              refine ⟨rfl, ?_⟩
              have hF560 : Fr [79, 83, 84] dt dt557 := Fr_tr hF542 hF559 (by decide)
              rcases h556 with ⟨rfl, h556⟩ | ⟨rfl, h556⟩
              · skip
                obtain ⟨h556_0, h556_1, h556_2, h556_3, h556_4⟩ := h556
                have fl561 := RSX_0 h556_0 rfl
                have fe562 : (gLF (KF 1 b n) (VF b n) (dt 79 10)) i = (gK (KF 1 b n) (159 - 100)) j511 := hp514.trans ((show (gL2 (KF 1 b n) (VF b n)) j511 = gB ((gK (KF 1 b n) (159 - 100)) j511) gOk by first | exact gB_id.symm | exact gL2_n (by omega)).trans (gB_no fl561.1))
                refine go_retq PM173 (k := 0) (r := some (.inl 0)) (w1 := (SH, dt557)) rfl ?_
                exact ⟨dt557, rfl, hI558, hF560, (Or.inl ⟨rfl, ⟨by exact RSX_f fe562 fl561 (by omega) (by omega), by first | exact True.intro | rfl | omega | trivial, by first | exact True.intro | rfl | omega | trivial, by first | exact True.intro | rfl | omega | trivial, by first | exact True.intro | rfl | omega | trivial⟩⟩)⟩
              · skip
                obtain ⟨h556_0, h556_1, h556_2, h556_3, h556_4, h556_5, h556_6, h556_7, h556_8, h556_9⟩ := h556
                obtain ⟨j563, ej564, hc565⟩ := RSX_1 h556_0 (by decide)
                have hp566 : (gLF (KF 1 b n) (VF b n) (dt 79 10)) i = gOk j563 := hp514.trans ((show (gL2 (KF 1 b n) (VF b n)) j511 = gB ((gK (KF 1 b n) (159 - 100)) j511) gOk by first | exact gB_id.symm | exact gL2_n (by omega)).trans (by rw [ej564]; exact gB_0))
                have hi567 : j563 ≤ t := by have z := (fun (h : KZ (KF 1 b n) t) => gK_M (K := (KF 1 b n)) (k := 159 - 100) (i := j511) h (by decide)) hz; rw [ej564] at z; have y := z rfl; simp only at y; omega
                clear cr516 cb517 cv518 ck519
                have cr568 := CUR_R hc565 (.inr rfl)
                have cb569 := CUR_b hc565
                have cv570 := CUR_v hc565
                have ck571 := KZ_lt (i := j563) hz
                have c1572 := (hc565).1
                have ci573 := hi567
                refine go_retq PM173 (k := 0) (r := some (.inl 1)) (w1 := (SH, dt557)) rfl ?_
                exact ⟨dt557, rfl, hI558, hF560, (Or.inr ⟨rfl, ⟨by exact RSX_ok (hp566.trans (by rfl)) hc565, by first | exact True.intro | rfl | omega | trivial, by first | exact True.intro | rfl | omega | trivial, by first | exact True.intro | rfl | omega | trivial, by first | exact True.intro | rfl | omega | trivial, by exact (InvC_get (by assumption) 79 15 rfl rfl).2, by first | exact True.intro | rfl | omega | trivial, by first | exact True.intro | rfl | omega | trivial, by first | exact True.intro | rfl | omega | trivial, by first | exact True.intro | rfl | omega | trivial, by first | exact True.intro | rfl | omega | trivial⟩⟩)⟩
            · skip
              refine go_toq PM173 (k := 1) (pc' := 155) (L' := [some (.inr (.inr (some 79))), some (.inl 0)]) (st' := [.inr (.inr (some 79))]) (w' := (SH, (u2 dt505 83 (((4 * (dt505 79 10)) + 2).toNat) (dt505 79 11)))) rfl ?_
              refine go_callq PM173 PM159 (Q' := _) rfl rfl rfl rfl (sp_X6_next0_p1 L xs sio (d + 30) (u2 dt505 83 (((4 * (dt505 79 10)) + 2).toNat) (dt505 79 11)) hI524   (by first | exact True.intro | rfl | omega | trivial) (by first | exact True.intro | rfl | omega | trivial)) ?_
              rintro _ _ ⟨dt575, rfl, hI576, hF577, h574⟩
              refine ⟨rfl, ?_⟩
              have hF578 : Fr [79, 83, 84] dt dt575 := Fr_tr hF525 hF577 (by decide)
              rcases h574 with ⟨rfl, h574⟩
              obtain ⟨h574_0, h574_1, h574_2, h574_3, h574_4, h574_5, h574_6, h574_7, h574_8⟩ := h574
              have hq579 := h574_0
              rw [show (u2 dt505 83 (((4 * (dt505 79 10)) + 2).toNat) (dt505 79 11)) 85 = dt 85 from funext (hF525 85 (by decide)), show (u2 dt505 83 (((4 * (dt505 79 10)) + 2).toNat) (dt505 79 11)) 79 12 = dt 79 12 by omega, hbb, show (dt 79 12).toNat = n by omega] at hq579
              have hc580 : CUR 1 b n dt575 (j511 + 1) := CUR_n hc538 hq579
              have hi581 : j511 + 1 ≤ t := by omega
              have av582 : (u2 dt505 83 (((4 * (dt505 79 10)) + 2).toNat) (dt505 79 11)) 79 15 + 1 ≤ (u2 dt505 83 (((4 * (dt505 79 10)) + 2).toNat) (dt505 79 11)) 79 13 := by omega
              have hp583 : (gLF (KF 1 b n) (VF b n) (dt 79 10)) i = (fun i => gB (gB_ (KF 1 b n) (VF b n) 8 i) (gK (KF 1 b n) 59)) (j511 + 1) := hp514.trans (by exact gL2_w (by omega))
              clear cr516 cb517 cv518 ck519
              have cr584 := CUR_R hc580 (.inr rfl)
              have cb585 := CUR_b hc580
              have cv586 := CUR_v hc580
              have ck587 := KZ_lt (i := (j511 + 1)) hz
              have c1588 := (hc580).1
              have ci589 := hi581
              refine go_toq PM173 (k := 1) (pc' := 159) (L' := [some (.inr (.inr (some 79))), some (.inl 0)]) (st' := [.inr (.inr (some 79))]) (w' := (SH, dt575)) rfl ?_
              refine go_callq PM173 PM168 (Q' := _) rfl rfl rfl rfl (sp_X6_any_g0 L xs sio (d + 0) dt575 hI576 b n t (j511 + 1) (by first | exact hbb | (rw [show dt575 85 = dt 85 from funext (hF578 85 (by decide)), show dt575 79 12 = dt 79 12 by omega]; exact hbb)) (by omega) hz ht hc580 hi581 hn5  (by first | exact True.intro | rfl | omega | trivial) (by first | exact True.intro | rfl | omega | trivial) (by first | exact True.intro | rfl | omega | trivial)) ?_
              rintro _ _ ⟨dt591, rfl, hI592, hF593, h590⟩
              refine ⟨rfl, ?_⟩
              have hF594 : Fr [79, 83, 84] dt dt591 := Fr_tr hF578 hF593 (by decide)
              rcases h590 with ⟨rfl, h590⟩ | ⟨rfl, h590⟩
              · skip
                obtain ⟨h590_0, h590_1, h590_2, h590_3, h590_4⟩ := h590
                have fl595 := RSX_0 h590_0 rfl
                have fe596 : (gLF (KF 1 b n) (VF b n) (dt 79 10)) i = (gB_ (KF 1 b n) (VF b n) 8) (j511 + 1) := hp583.trans ((show (fun i => gB (gB_ (KF 1 b n) (VF b n) 8 i) (gK (KF 1 b n) 59)) (j511 + 1) = gB ((gB_ (KF 1 b n) (VF b n) 8) (j511 + 1)) (gK (KF 1 b n) 59) by rfl).trans (gB_no fl595.1))
                refine go_retq PM173 (k := 2) (r := some (.inl 0)) (w1 := (SH, dt591)) rfl ?_
                exact ⟨dt591, rfl, hI592, hF594, (Or.inl ⟨rfl, ⟨by exact RSX_f fe596 fl595 (by omega) (by omega), by first | exact True.intro | rfl | omega | trivial, by first | exact True.intro | rfl | omega | trivial, by first | exact True.intro | rfl | omega | trivial, by first | exact True.intro | rfl | omega | trivial⟩⟩)⟩
              · skip
                obtain ⟨h590_0, h590_1, h590_2, h590_3, h590_4, h590_5, h590_6, h590_7, h590_8, h590_9⟩ := h590
                obtain ⟨j597, ej598, hc599⟩ := RSX_1 h590_0 (by decide)
                have hp600 : (gLF (KF 1 b n) (VF b n) (dt 79 10)) i = (gK (KF 1 b n) 59) j597 := hp583.trans ((show (fun i => gB (gB_ (KF 1 b n) (VF b n) 8 i) (gK (KF 1 b n) 59)) (j511 + 1) = gB ((gB_ (KF 1 b n) (VF b n) 8) (j511 + 1)) (gK (KF 1 b n) 59) by rfl).trans (by rw [ej598]; exact gB_0))
                have hi601 : j597 ≤ t := by have z := gB__M (K := (KF 1 b n)) (V := (VF b n)) (d := 8) (i := (j511 + 1)) hz; rw [ej598] at z; have y := z rfl; simp only at y; omega
                clear cr584 cb585 cv586 ck587
                have cr602 := CUR_R hc599 (.inr rfl)
                have cb603 := CUR_b hc599
                have cv604 := CUR_v hc599
                have ck605 := KZ_lt (i := j597) hz
                have c1606 := (hc599).1
                have ci607 := hi601
                have r608 : 0 ≤ dt591 79 10 ∧ dt591 79 10 ≤ 24 := InvC_get hI592 79 10 rfl rfl
                have r609 : 0 ≤ dt591 79 11 ∧ dt591 79 11 ≤ 510 := InvC_get hI592 79 11 rfl rfl
                refine go_toq PM173 (k := 11) (pc' := 183) (L' := [some (.inr (.inr (some 79))), some (.inl 0)]) (st' := [.inl (dt591 79 11), .inl ((4 * (dt591 79 10)) + 3), .inr (.inr (some 83))]) (w' := (SH, dt591)) rfl ?_
                have hI610 : InvC (u2 dt591 83 (((4 * (dt591 79 10)) + 3).toNat) (dt591 79 11)) := InvC_u2 hI592 (lo := -2147483648) (hi := 2147483647) rfl rfl rfl (by first | exact bnd1 r609 (by decide) | omega) (by first | exact bnd2 r609 (by decide) | omega)
                have hF611 : Fr [79, 83, 84] dt (u2 dt591 83 (((4 * (dt591 79 10)) + 3).toNat) (dt591 79 11)) := Fr_u2 hF594 (by decide)
                have w612 : (u2 dt591 83 (((4 * (dt591 79 10)) + 3).toNat) (dt591 79 11)) 79 2 = dt591 79 2 := rfl
                have w613 : (u2 dt591 83 (((4 * (dt591 79 10)) + 3).toNat) (dt591 79 11)) 79 9 = dt591 79 9 := rfl
                have w614 : (u2 dt591 83 (((4 * (dt591 79 10)) + 3).toNat) (dt591 79 11)) 79 10 = dt591 79 10 := rfl
                have w615 : (u2 dt591 83 (((4 * (dt591 79 10)) + 3).toNat) (dt591 79 11)) 79 11 = dt591 79 11 := rfl
                have w616 : (u2 dt591 83 (((4 * (dt591 79 10)) + 3).toNat) (dt591 79 11)) 79 12 = dt591 79 12 := rfl
                have w617 : (u2 dt591 83 (((4 * (dt591 79 10)) + 3).toNat) (dt591 79 11)) 79 13 = dt591 79 13 := rfl
                have w618 : (u2 dt591 83 (((4 * (dt591 79 10)) + 3).toNat) (dt591 79 11)) 79 14 = dt591 79 14 := rfl
                have w619 : (u2 dt591 83 (((4 * (dt591 79 10)) + 3).toNat) (dt591 79 11)) 79 15 = dt591 79 15 := rfl
                have w620 : (u2 dt591 83 (((4 * (dt591 79 10)) + 3).toNat) (dt591 79 11)) 79 16 = dt591 79 16 := rfl
                have w621 : (u2 dt591 83 (((4 * (dt591 79 10)) + 3).toNat) (dt591 79 11)) 79 17 = dt591 79 17 := rfl
                have w622 : (u2 dt591 83 (((4 * (dt591 79 10)) + 3).toNat) (dt591 79 11)) 79 18 = dt591 79 18 := rfl
                have w623 : (u2 dt591 83 (((4 * (dt591 79 10)) + 3).toNat) (dt591 79 11)) 79 20 = dt591 79 20 := rfl
                have hc624 : CUR 1 b n (u2 dt591 83 (((4 * (dt591 79 10)) + 3).toNat) (dt591 79 11)) j597 := CUR_sm hc599 rfl rfl rfl rfl
                refine go_smpq PM173 (L' := [some (.inr (.inr (some 79))), some (.inl 0)]) (st' := []) (w' := (SH, (u2 dt591 83 (((4 * (dt591 79 10)) + 3).toNat) (dt591 79 11)))) rfl rfl (s_iast (n := 64) rfl ⟨by omega, by omega⟩ (by first | exact bnd r609 (by decide) (by decide) | exact ⟨by omega, by omega⟩)) ?_
                refine go_toq PM173 (k := 2) (pc' := 188) (L' := [some (.inr (.inr (some 79))), some (.inl 0)]) (st' := [.inl 159, .inr (.inr (some 79))]) (w' := (SH, (u2 dt591 83 (((4 * (dt591 79 10)) + 3).toNat) (dt591 79 11)))) rfl ?_
                refine go_callq PM173 PM161 (Q' := _) rfl rfl rfl rfl (sp_X6_need0_g1 L xs sio (d + 29) (u2 dt591 83 (((4 * (dt591 79 10)) + 3).toNat) (dt591 79 11)) hI610 b n t j597 (by first | exact hbb | (rw [show (u2 dt591 83 (((4 * (dt591 79 10)) + 3).toNat) (dt591 79 11)) 85 = dt 85 from funext (hF611 85 (by decide)), show (u2 dt591 83 (((4 * (dt591 79 10)) + 3).toNat) (dt591 79 11)) 79 12 = dt 79 12 by omega]; exact hbb)) (by omega) hz ht hc624 hi601 hn5 159 ⟨by decide, by decide⟩ (by first | exact True.intro | rfl | omega | trivial)) ?_
                rintro _ _ ⟨dt626, rfl, hI627, hF628, h625⟩
                refine ⟨rfl, ?_⟩
                have hF629 : Fr [79, 83, 84] dt dt626 := Fr_tr hF611 hF628 (by decide)
                rcases h625 with ⟨rfl, h625⟩ | ⟨rfl, h625⟩
                · skip
                  obtain ⟨h625_0, h625_1, h625_2, h625_3, h625_4⟩ := h625
                  have fl630 := RSX_0 h625_0 rfl
                  have fe631 : (gLF (KF 1 b n) (VF b n) (dt 79 10)) i = (gK (KF 1 b n) (159 - 100)) j597 := hp600.trans ((show (gK (KF 1 b n) 59) j597 = gB ((gK (KF 1 b n) (159 - 100)) j597) gOk by first | exact gB_id.symm | exact gL2_n (by omega)).trans (gB_no fl630.1))
                  refine go_retq PM173 (k := 0) (r := some (.inl 0)) (w1 := (SH, dt626)) rfl ?_
                  exact ⟨dt626, rfl, hI627, hF629, (Or.inl ⟨rfl, ⟨by exact RSX_f fe631 fl630 (by omega) (by omega), by first | exact True.intro | rfl | omega | trivial, by first | exact True.intro | rfl | omega | trivial, by first | exact True.intro | rfl | omega | trivial, by first | exact True.intro | rfl | omega | trivial⟩⟩)⟩
                · skip
                  obtain ⟨h625_0, h625_1, h625_2, h625_3, h625_4, h625_5, h625_6, h625_7, h625_8, h625_9⟩ := h625
                  obtain ⟨j632, ej633, hc634⟩ := RSX_1 h625_0 (by decide)
                  have hp635 : (gLF (KF 1 b n) (VF b n) (dt 79 10)) i = gOk j632 := hp600.trans ((show (gK (KF 1 b n) 59) j597 = gB ((gK (KF 1 b n) (159 - 100)) j597) gOk by first | exact gB_id.symm | exact gL2_n (by omega)).trans (by rw [ej633]; exact gB_0))
                  have hi636 : j632 ≤ t := by have z := (fun (h : KZ (KF 1 b n) t) => gK_M (K := (KF 1 b n)) (k := 159 - 100) (i := j597) h (by decide)) hz; rw [ej633] at z; have y := z rfl; simp only at y; omega
                  clear cr602 cb603 cv604 ck605
                  have cr637 := CUR_R hc634 (.inr rfl)
                  have cb638 := CUR_b hc634
                  have cv639 := CUR_v hc634
                  have ck640 := KZ_lt (i := j632) hz
                  have c1641 := (hc634).1
                  have ci642 := hi636
                  refine go_retq PM173 (k := 0) (r := some (.inl 1)) (w1 := (SH, dt626)) rfl ?_
                  exact ⟨dt626, rfl, hI627, hF629, (Or.inr ⟨rfl, ⟨by exact RSX_ok (hp635.trans (by rfl)) hc634, by first | exact True.intro | rfl | omega | trivial, by first | exact True.intro | rfl | omega | trivial, by first | exact True.intro | rfl | omega | trivial, by first | exact True.intro | rfl | omega | trivial, by exact (InvC_get (by assumption) 79 15 rfl rfl).2, by first | exact True.intro | rfl | omega | trivial, by first | exact True.intro | rfl | omega | trivial, by first | exact True.intro | rfl | omega | trivial, by first | exact True.intro | rfl | omega | trivial, by first | exact True.intro | rfl | omega | trivial⟩⟩)⟩
        · exfalso; omega
      · skip
        refine go_toq PM173 (k := 2) (pc' := 35) (L' := [some (.inr (.inr (some 79))), none]) (st' := [.inl 3, .inr (.inr (some 79))]) (w' := (SH, dt)) rfl ?_
        refine go_callq PM173 PM160 (Q' := _) rfl rfl rfl rfl (sp_X6_bad_g L xs sio (d + 36) dt hI  3 ⟨by decide, by decide⟩ ) ?_
        rintro _ _ ⟨dt644, rfl, hI645, hF646, h643⟩
        refine ⟨rfl, ?_⟩
        have hF647 : Fr [79, 83, 84] dt dt644 := Fr_tr hF hF646 (by decide)
        rcases h643 with ⟨rfl, h643⟩
        obtain ⟨h643_0, h643_1, h643_2, h643_3, h643_4, h643_5, h643_6, h643_7, h643_8, h643_9, h643_10, h643_11⟩ := h643
        have hc648 : CUR 1 b n dt644 i := CUR_sm hc (by omega) (by omega) (by omega) (by omega)
        refine go_retq PM173 (k := 0) (r := some (.inl 0)) (w1 := (SH, dt644)) rfl ?_
        exact ⟨dt644, rfl, hI645, hF647, (Or.inl ⟨rfl, ⟨by exact RSX_no (k := 3) (j := i) ((rfl : (gLF (KF 1 b n) (VF b n) (dt 79 10)) i = (gLF (KF 1 b n) (VF b n) (dt 79 10)) i).trans (by show gLF _ _ _ _ = _; unfold gLF; rw [if_neg (by omega), if_pos (by omega)])) (by decide) (by omega) (by show _ = ((TP b n i : Nat) : Int); omega), by first | exact True.intro | rfl | omega | trivial, by first | exact True.intro | rfl | omega | trivial, by first | exact True.intro | rfl | omega | trivial, by first | exact True.intro | rfl | omega | trivial⟩⟩)⟩
    · skip
      refine go_toq PM173 (k := 2) (pc' := 20) (L' := [some (.inr (.inr (some 79))), none]) (st' := [.inl 1, .inr (.inr (some 79))]) (w' := (SH, dt)) rfl ?_
      refine go_callq PM173 PM160 (Q' := _) rfl rfl rfl rfl (sp_X6_bad_g L xs sio (d + 36) dt hI  1 ⟨by decide, by decide⟩ ) ?_
      rintro _ _ ⟨dt650, rfl, hI651, hF652, h649⟩
      refine ⟨rfl, ?_⟩
      have hF653 : Fr [79, 83, 84] dt dt650 := Fr_tr hF hF652 (by decide)
      rcases h649 with ⟨rfl, h649⟩
      obtain ⟨h649_0, h649_1, h649_2, h649_3, h649_4, h649_5, h649_6, h649_7, h649_8, h649_9, h649_10, h649_11⟩ := h649
      have hc654 : CUR 1 b n dt650 i := CUR_sm hc (by omega) (by omega) (by omega) (by omega)
      refine go_retq PM173 (k := 0) (r := some (.inl 0)) (w1 := (SH, dt650)) rfl ?_
      exact ⟨dt650, rfl, hI651, hF653, (Or.inl ⟨rfl, ⟨by exact RSX_no (k := 1) (j := i) ((rfl : (gLF (KF 1 b n) (VF b n) (dt 79 10)) i = (gLF (KF 1 b n) (VF b n) (dt 79 10)) i).trans (by show gLF _ _ _ _ = _; unfold gLF; rw [if_pos (by omega)])) (by decide) (by omega) (by show _ = ((TP b n i : Nat) : Int); omega), by first | exact True.intro | rfl | omega | trivial, by first | exact True.intro | rfl | omega | trivial, by first | exact True.intro | rfl | omega | trivial, by first | exact True.intro | rfl | omega | trivial⟩⟩)⟩
