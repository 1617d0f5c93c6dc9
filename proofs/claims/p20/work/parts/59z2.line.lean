set_option maxHeartbeats 1500000 in
set_option maxRecDepth 20000 in
theorem sp_X6_aLine_g1 (L : Nat) (xs : Nat → Int32) (sio : Option Nat) (d : Nat) (dt : Nat → Nat → Int) (hI : InvC dt) (b : Nat → Int) (n t i : Nat) (hbb : mB (dt 85) (dt 79 12) = b) (hnn : dt 79 12 = (n : Int)) (hz : KZ (KF 1 b n) t) (ht : t ≤ 500) (hc : CUR 1 b n dt i) (hi : i ≤ t) (hn5 : n ≤ 500)  (h_p0 : dt 79 9 = 1) (h_p1 : dt 79 11 ≤ dt 79 15) (h_p2 : 0 ≤ dt 79 10 ∧ dt 79 10 ≤ 16) : GO (am_XX L xs sio) (d + 37) 173 0 [some (.inr (.inr (some 79))), none] [] (SH, dt) (fun r w2 => ∃ dt2 : Nat → Nat → Int, w2 = (SH, dt2) ∧ InvC dt2 ∧ Fr [79, 83, 84] dt dt2 ∧ ((r = some (.inl 0) ∧ (RSX 1 b n i dt2 0 ((gLF (KF 1 b n) (VF b n) (dt 79 10)) i)) ∧ (dt2 79 2 = dt 79 2) ∧ (dt2 79 9 = dt 79 9) ∧ (dt2 79 10 = dt 79 10) ∧ (dt2 79 12 = dt 79 12)) ∨ (r = some (.inl 1) ∧ (RSX 1 b n i dt2 1 ((gLF (KF 1 b n) (VF b n) (dt 79 10)) i)) ∧ (dt 79 10 ≤ 15) ∧ (dt 79 11 ≤ dt2 79 11) ∧ (dt 79 15 + dt2 79 11 ≤ dt2 79 15 + dt 79 11) ∧ (dt 79 15 + 1 ≤ dt2 79 15) ∧ (dt2 79 15 ≤ 500) ∧ (dt2 79 2 = dt 79 2) ∧ (dt2 79 9 = dt 79 9) ∧ (dt2 79 10 = dt 79 10) ∧ (dt2 79 12 = dt 79 12) ∧ (dt2 79 17 = dt 79 17)))) := by
  have hF : Fr [79, 83, 84] dt dt := Fr_refl
  have r1 : 0 ≤ dt 79 15 ∧ dt 79 15 ≤ 500 := InvC_get hI 79 15 rfl rfl
  have r2 : 0 ≤ dt 79 11 ∧ dt 79 11 ≤ 510 := InvC_get hI 79 11 rfl rfl
  have r3 : 0 ≤ dt 79 10 ∧ dt 79 10 ≤ 24 := InvC_get hI 79 10 rfl rfl
  have cr0 := hid (CUR_R hc (.inr rfl))
  have cd0 := CUR_d (hc)
  have cb0 := hid (CUR_b hc)
  have cv0 := hid (CUR_v hc)
  have ck0 := hid (KZ_lt (i := i) hz)
  have c10 := hc.1
  have r4 : (-2147483648) ≤ dt 79 14 ∧ dt 79 14 ≤ 2147483647 := InvC_get hI 79 14 rfl rfl
  have u1_ := hid (And.intro (unhid cr0) (And.intro (unhid cb0) (And.intro (unhid cv0) (unhid ck0))))
  refine go_ifq PM173 (k := 3) (p1 := 24) (p2 := 9) (L' := [some (.inr (.inr (some 79))), none]) (st' := []) (w' := (SH, dt)) rfl (c_eq (a := dt 79 14) (b := 7) (by first | exact bnd r4 (by decide) (by decide) | exact ⟨by (first | omega | (have z_ := unhid u1_; omega)), by (first | omega | (have z_ := unhid u1_; omega))⟩) ⟨by decide, by decide⟩) (fun c5 => ?_) (fun c5 => ?_)
  · skip
    refine go_ifq PM173 (k := 3) (p1 := 39) (p2 := 33) (L' := [some (.inr (.inr (some 79))), none]) (st' := []) (w' := (SH, dt)) rfl (c_ne (a := dt 79 10) (b := 16) (by first | exact bnd r3 (by decide) (by decide) | exact ⟨by (first | omega | (have z_ := unhid u1_; omega)), by (first | omega | (have z_ := unhid u1_; omega))⟩) ⟨by decide, by decide⟩) (fun c6 => ?_) (fun c6 => ?_)
    · skip
      have qc6 : dt 79 10 ≤ 15 := by omega
      replace c6 := hid c6
      have u2_ := hid (And.intro (unhid cr0) (And.intro (unhid cb0) (And.intro (unhid cv0) (And.intro (unhid ck0) (unhid c6)))))
      refine go_ifq PM173 (k := 3) (p1 := 52) (p2 := 48) (L' := [some (.inr (.inr (some 79))), none]) (st' := []) (w' := (SH, dt)) rfl (c_ne (a := dt 79 14) (b := 7) (by first | exact bnd r4 (by decide) (by decide) | exact ⟨by (first | omega | (have z_ := unhid u2_; omega)), by (first | omega | (have z_ := unhid u2_; omega))⟩) ⟨by decide, by decide⟩) (fun c7 => ?_) (fun c7 => ?_)
      · skip
        replace c7 := hid c7
        refine go_toq PM173 (k := 4) (pc' := 56) (L' := [some (.inr (.inr (some 79))), some (.inl 0)]) (st' := [.inl 0, .inr (.inr (some 79))]) (w' := (SH, dt)) rfl ?_
        have hI8 : InvC (u2 dt 79 20 0) := InvC_u2 hI (lo := 0) (hi := 8) rfl rfl rfl (by decide) (by decide)
        have hF9 : Fr [79, 83, 84] dt (u2 dt 79 20 0) := Fr_u2 hF (by decide)
        have w10 : (u2 dt 79 20 0) 79 2 = dt 79 2 := rfl
        have w11 : (u2 dt 79 20 0) 79 9 = dt 79 9 := rfl
        have w12 : (u2 dt 79 20 0) 79 10 = dt 79 10 := rfl
        have w13 : (u2 dt 79 20 0) 79 11 = dt 79 11 := rfl
        have w14 : (u2 dt 79 20 0) 79 12 = dt 79 12 := rfl
        have w15 : (u2 dt 79 20 0) 79 13 = dt 79 13 := rfl
        have w16 : (u2 dt 79 20 0) 79 14 = dt 79 14 := rfl
        have w17 : (u2 dt 79 20 0) 79 15 = dt 79 15 := rfl
        have w18 : (u2 dt 79 20 0) 79 16 = dt 79 16 := rfl
        have w19 : (u2 dt 79 20 0) 79 17 = dt 79 17 := rfl
        have w20 : (u2 dt 79 20 0) 79 18 = dt 79 18 := rfl
        have w21 : (u2 dt 79 20 0) 79 20 = 0 := rfl
        have hc22 : CUR 1 b n (u2 dt 79 20 0) i := CUR_sm hc rfl rfl rfl rfl
        refine go_smpq PM173 (L' := [some (.inr (.inr (some 79))), some (.inl 0)]) (st' := []) (w' := (SH, (u2 dt 79 20 0))) rfl rfl (s_pf rfl rfl rfl rfl ⟨by decide, by decide⟩) ?_
        refine go_toq PM173 (k := 1) (pc' := 60) (L' := [some (.inr (.inr (some 79))), some (.inl 0)]) (st' := [.inr (.inr (some 79))]) (w' := (SH, (u2 dt 79 20 0))) rfl ?_
        have u3_ := hid (And.intro (unhid cr0) (And.intro (unhid cb0) (And.intro (unhid cv0) (And.intro (unhid ck0) (And.intro (unhid c6) (unhid c7))))))
        refine go_callq PM173 PM159 (Q' := _) rfl rfl rfl rfl (sp_X6_next0_p1 L xs sio (d + 30) (u2 dt 79 20 0) hI8   (by first | exact True.intro | with_reducible assumption | exact unhid (by with_reducible assumption) | rfl | (first | omega | (have z_ := unhid u3_; omega)) | trivial) (by first | exact True.intro | with_reducible assumption | exact unhid (by with_reducible assumption) | rfl | (first | omega | (have z_ := unhid u3_; omega)) | trivial)) ?_
        rintro _ _ ⟨dt24, rfl, hI25, hF26, h23⟩
        refine ⟨rfl, ?_⟩
        have hF27 : Fr [79, 83, 84] dt dt24 := Fr_tr hF9 hF26 (by decide)
        rcases h23 with ⟨rfl, h23⟩
        obtain ⟨h23_0, h23_1, h23_2, h23_3, h23_4, h23_5, h23_6, h23_7, h23_8⟩ := h23
        have w28 : dt24 79 2 = dt 79 2 := h23_2.trans w10
        have w29 : dt24 79 9 = dt 79 9 := h23_3.trans w11
        have w30 : dt24 79 10 = dt 79 10 := h23_4.trans w12
        have w31 : dt24 79 11 = dt 79 11 := h23_5.trans w13
        have w32 : dt24 79 12 = dt 79 12 := h23_6.trans w14
        have w33 : dt24 79 17 = dt 79 17 := h23_7.trans w19
        have w34 : dt24 79 20 = 0 := h23_8.trans w21
        have hq35 := h23_0
        rw [show (u2 dt 79 20 0) 85 = dt 85 from funext (hF9 85 (by decide)), show (u2 dt 79 20 0) 79 12 = dt 79 12 by first | with_reducible assumption | exact unhid (by with_reducible assumption) | (first | omega | (have z_ := unhid u3_; omega)), hbb, show (dt 79 12).toNat = n from (congrArg Int.toNat hnn).trans (Int.toNat_natCast n)] at hq35
        have hc36 : CUR 1 b n dt24 (i + 1) := CUR_n hc22 hq35
        have hi37 : i + 1 ≤ t := by (have z_ := unhid u3_; omega)
        have av38 : (u2 dt 79 20 0) 79 15 + 1 ≤ (u2 dt 79 20 0) 79 13 := by (have z_ := unhid u3_; omega)
        have kk_ : KF 1 b n i = 1001 := by (have z_ := unhid u3_; omega)
        have hp39 : (gLF (KF 1 b n) (VF b n) (dt 79 10)) i = (gL1 (KF 1 b n) (VF b n)) (i + 1) := (rfl : (gLF (KF 1 b n) (VF b n) (dt 79 10)) i = (gLF (KF 1 b n) (VF b n) (dt 79 10)) i).trans (by show gLF _ _ _ _ = _; unfold gLF; rw [if_neg (by (have z_ := unhid u3_; omega)), if_neg (by (have z_ := unhid u3_; omega))]; exact gLine_p (by (have z_ := unhid u3_; omega)))
        clear cr0 cb0 cd0 cv0 ck0
        have cr40 := hid (CUR_R hc36 (.inr rfl))
        have cd41 := CUR_d (hc36)
        have cb41 := hid (CUR_b hc36)
        have cv42 := hid (CUR_v hc36)
        have ck43 := hid (KZ_lt (i := (i + 1)) hz)
        have c144 := (hc36).1
        have ci45 := hi37
        clear h23_2 w10 h23_3 w11 h23_4 w12 h23_5 w13 h23_6 w14 h23_7 w19 h23_8 w21
        have r46 : 0 ≤ dt24 79 10 ∧ dt24 79 10 ≤ 24 := InvC_get hI25 79 10 rfl rfl
        refine go_toq PM173 (k := 9) (pc' := 86) (L' := [some (.inr (.inr (some 79))), some (.inl 0)]) (st' := [.inl 8, .inl (4 * (dt24 79 10)), .inr (.inr (some 83))]) (w' := (SH, dt24)) rfl ?_
        have hI47 : InvC (u2 dt24 83 ((4 * (dt24 79 10)).toNat) 8) := InvC_u2 hI25 (lo := -2147483648) (hi := 2147483647) rfl rfl rfl (by decide) (by decide)
        have hF48 : Fr [79, 83, 84] dt (u2 dt24 83 ((4 * (dt24 79 10)).toNat) 8) := Fr_u2 hF27 (by decide)
        have w49 : (u2 dt24 83 ((4 * (dt24 79 10)).toNat) 8) 79 2 = dt 79 2 := w28
        have w50 : (u2 dt24 83 ((4 * (dt24 79 10)).toNat) 8) 79 9 = dt 79 9 := w29
        have w51 : (u2 dt24 83 ((4 * (dt24 79 10)).toNat) 8) 79 10 = dt 79 10 := w30
        have w52 : (u2 dt24 83 ((4 * (dt24 79 10)).toNat) 8) 79 11 = dt 79 11 := w31
        have w53 : (u2 dt24 83 ((4 * (dt24 79 10)).toNat) 8) 79 12 = dt 79 12 := w32
        have w54 : (u2 dt24 83 ((4 * (dt24 79 10)).toNat) 8) 79 13 = dt24 79 13 := rfl
        have w55 : (u2 dt24 83 ((4 * (dt24 79 10)).toNat) 8) 79 14 = dt24 79 14 := rfl
        have w56 : (u2 dt24 83 ((4 * (dt24 79 10)).toNat) 8) 79 15 = dt24 79 15 := rfl
        have w57 : (u2 dt24 83 ((4 * (dt24 79 10)).toNat) 8) 79 16 = dt24 79 16 := rfl
        have w58 : (u2 dt24 83 ((4 * (dt24 79 10)).toNat) 8) 79 17 = dt 79 17 := w33
        have w59 : (u2 dt24 83 ((4 * (dt24 79 10)).toNat) 8) 79 18 = dt24 79 18 := rfl
        have w60 : (u2 dt24 83 ((4 * (dt24 79 10)).toNat) 8) 79 20 = 0 := w34
        have hc61 : CUR 1 b n (u2 dt24 83 ((4 * (dt24 79 10)).toNat) 8) (i + 1) := CUR_sm hc36 rfl rfl rfl rfl
        have u4_ := hid (And.intro (unhid c6) (And.intro (unhid c7) (And.intro (unhid cr40) (And.intro (unhid cb41) (And.intro (unhid cv42) (unhid ck43))))))
        refine go_smpq PM173 (L' := [some (.inr (.inr (some 79))), some (.inl 0)]) (st' := []) (w' := (SH, (u2 dt24 83 ((4 * (dt24 79 10)).toNat) 8))) rfl rfl (s_iast (n := 64) rfl ⟨by (first | omega | (have z_ := unhid u4_; omega)), by (first | omega | (have z_ := unhid u4_; omega))⟩ ⟨by decide, by decide⟩) ?_
        have r62 : 0 ≤ dt24 79 11 ∧ dt24 79 11 ≤ 510 := InvC_get hI25 79 11 rfl rfl
        refine go_toq PM173 (k := 12) (pc' := 119) (L' := [some (.inr (.inr (some 79))), some (.inl 0)]) (st' := [.inl (dt24 79 11), .inl ((4 * (dt24 79 10)) + 1), .inr (.inr (some 83))]) (w' := (SH, (u2 dt24 83 ((4 * (dt24 79 10)).toNat) 8))) rfl ?_
        have hI63 : InvC (u2 (u2 dt24 83 ((4 * (dt24 79 10)).toNat) 8) 83 (((4 * (dt24 79 10)) + 1).toNat) (dt24 79 11)) := InvC_u2 hI47 (lo := -2147483648) (hi := 2147483647) rfl rfl rfl (by first | exact bnd1 r62 (by decide) | (first | omega | (have z_ := unhid u4_; omega))) (by first | exact bnd2 r62 (by decide) | (first | omega | (have z_ := unhid u4_; omega)))
        have hF64 : Fr [79, 83, 84] dt (u2 (u2 dt24 83 ((4 * (dt24 79 10)).toNat) 8) 83 (((4 * (dt24 79 10)) + 1).toNat) (dt24 79 11)) := Fr_u2 hF48 (by decide)
        have w65 : (u2 (u2 dt24 83 ((4 * (dt24 79 10)).toNat) 8) 83 (((4 * (dt24 79 10)) + 1).toNat) (dt24 79 11)) 79 2 = dt 79 2 := w49
        have w66 : (u2 (u2 dt24 83 ((4 * (dt24 79 10)).toNat) 8) 83 (((4 * (dt24 79 10)) + 1).toNat) (dt24 79 11)) 79 9 = dt 79 9 := w50
        have w67 : (u2 (u2 dt24 83 ((4 * (dt24 79 10)).toNat) 8) 83 (((4 * (dt24 79 10)) + 1).toNat) (dt24 79 11)) 79 10 = dt 79 10 := w51
        have w68 : (u2 (u2 dt24 83 ((4 * (dt24 79 10)).toNat) 8) 83 (((4 * (dt24 79 10)) + 1).toNat) (dt24 79 11)) 79 11 = dt 79 11 := w52
        have w69 : (u2 (u2 dt24 83 ((4 * (dt24 79 10)).toNat) 8) 83 (((4 * (dt24 79 10)) + 1).toNat) (dt24 79 11)) 79 12 = dt 79 12 := w53
        have w70 : (u2 (u2 dt24 83 ((4 * (dt24 79 10)).toNat) 8) 83 (((4 * (dt24 79 10)) + 1).toNat) (dt24 79 11)) 79 13 = dt24 79 13 := w54
        have w71 : (u2 (u2 dt24 83 ((4 * (dt24 79 10)).toNat) 8) 83 (((4 * (dt24 79 10)) + 1).toNat) (dt24 79 11)) 79 14 = dt24 79 14 := w55
        have w72 : (u2 (u2 dt24 83 ((4 * (dt24 79 10)).toNat) 8) 83 (((4 * (dt24 79 10)) + 1).toNat) (dt24 79 11)) 79 15 = dt24 79 15 := w56
        have w73 : (u2 (u2 dt24 83 ((4 * (dt24 79 10)).toNat) 8) 83 (((4 * (dt24 79 10)) + 1).toNat) (dt24 79 11)) 79 16 = dt24 79 16 := w57
        have w74 : (u2 (u2 dt24 83 ((4 * (dt24 79 10)).toNat) 8) 83 (((4 * (dt24 79 10)) + 1).toNat) (dt24 79 11)) 79 17 = dt 79 17 := w58
        have w75 : (u2 (u2 dt24 83 ((4 * (dt24 79 10)).toNat) 8) 83 (((4 * (dt24 79 10)) + 1).toNat) (dt24 79 11)) 79 18 = dt24 79 18 := w59
        have w76 : (u2 (u2 dt24 83 ((4 * (dt24 79 10)).toNat) 8) 83 (((4 * (dt24 79 10)) + 1).toNat) (dt24 79 11)) 79 20 = 0 := w60
        clear w49 w50 w51 w52 w53 w54 w55 w56 w57 w58 w59 w60
        have hc77 : CUR 1 b n (u2 (u2 dt24 83 ((4 * (dt24 79 10)).toNat) 8) 83 (((4 * (dt24 79 10)) + 1).toNat) (dt24 79 11)) (i + 1) := CUR_sm hc61 rfl rfl rfl rfl
        refine go_smpq PM173 (L' := [some (.inr (.inr (some 79))), some (.inl 0)]) (st' := []) (w' := (SH, (u2 (u2 dt24 83 ((4 * (dt24 79 10)).toNat) 8) 83 (((4 * (dt24 79 10)) + 1).toNat) (dt24 79 11)))) rfl rfl (s_iast (n := 64) rfl ⟨by (first | omega | (have z_ := unhid u4_; omega)), by (first | omega | (have z_ := unhid u4_; omega))⟩ (by first | exact bnd r62 (by decide) (by decide) | exact ⟨by (first | omega | (have z_ := unhid u4_; omega)), by (first | omega | (have z_ := unhid u4_; omega))⟩)) ?_
        refine go_toq PM173 (k := 1) (pc' := 121) (L' := [some (.inr (.inr (some 79))), some (.inl 0)]) (st' := [.inr (.inr (some 79))]) (w' := (SH, (u2 (u2 dt24 83 ((4 * (dt24 79 10)).toNat) 8) 83 (((4 * (dt24 79 10)) + 1).toNat) (dt24 79 11)))) rfl ?_
        refine go_callq PM173 PM165 (Q' := _) rfl rfl rfl rfl (sp_X6_sumUp_g L xs sio (d + 27) (u2 (u2 dt24 83 ((4 * (dt24 79 10)).toNat) 8) 83 (((4 * (dt24 79 10)) + 1).toNat) (dt24 79 11)) hI63 b n t (i + 1) (by first | exact hbb | (rw [show (u2 (u2 dt24 83 ((4 * (dt24 79 10)).toNat) 8) 83 (((4 * (dt24 79 10)) + 1).toNat) (dt24 79 11)) 85 = dt 85 from funext (hF64 85 (by decide)), show (u2 (u2 dt24 83 ((4 * (dt24 79 10)).toNat) 8) 83 (((4 * (dt24 79 10)) + 1).toNat) (dt24 79 11)) 79 12 = dt 79 12 by first | with_reducible assumption | exact unhid (by with_reducible assumption) | (first | omega | (have z_ := unhid u4_; omega))]; exact hbb)) (by first | with_reducible assumption | exact unhid (by with_reducible assumption) | exact Eq.trans (by with_reducible assumption) hnn | (first | omega | (have z_ := unhid u4_; omega))) hz ht hc77 hi37 hn5  (by first | exact True.intro | with_reducible assumption | exact unhid (by with_reducible assumption) | rfl | (first | omega | (have z_ := unhid u4_; omega)) | trivial) (by first | exact True.intro | with_reducible assumption | exact unhid (by with_reducible assumption) | rfl | (first | omega | (have z_ := unhid u4_; omega)) | trivial)) ?_
        rintro _ _ ⟨dt79, rfl, hI80, hF81, h78⟩
        refine ⟨rfl, ?_⟩
        have hF82 : Fr [79, 83, 84] dt dt79 := Fr_tr hF64 hF81 (by decide)
        rcases h78 with ⟨rfl, h78⟩ | ⟨rfl, h78⟩
        · skip
          obtain ⟨h78_0, h78_1, h78_2, h78_3, h78_4⟩ := h78
          have w83 : dt79 79 2 = dt 79 2 := h78_1.trans w65
          have w84 : dt79 79 9 = dt 79 9 := h78_2.trans w66
          have w85 : dt79 79 10 = dt 79 10 := h78_3.trans w67
          have w86 : dt79 79 12 = dt 79 12 := h78_4.trans w69
          have fl87 := RSX_0 h78_0 rfl
          have fe88 : (gLF (KF 1 b n) (VF b n) (dt 79 10)) i = (gE (KF 1 b n) (VF b n)) (i + 1) := hp39.trans ((show (gL1 (KF 1 b n) (VF b n)) (i + 1) = gB ((gE (KF 1 b n) (VF b n)) (i + 1)) (gL2 (KF 1 b n) (VF b n)) by rfl).trans (gB_no fl87.1))
          clear h78_1 w65 h78_2 w66 h78_3 w67 h78_4 w69
          refine go_retq PM173 (k := 2) (r := some (.inl 0)) (w1 := (SH, dt79)) rfl ?_
          exact ⟨dt79, rfl, hI80, hF82, (Or.inl ⟨rfl, ⟨by exact RSX_f fe88 fl87 (by first | rfl | with_reducible assumption | exact unhid (by with_reducible assumption) | (first | omega | (have z_ := unhid u4_; omega))) (by first | rfl | with_reducible assumption | exact unhid (by with_reducible assumption) | (first | omega | (have z_ := unhid u4_; omega))), by first | exact True.intro | with_reducible assumption | exact unhid (by with_reducible assumption) | rfl | (first | omega | (have z_ := unhid u4_; omega)) | trivial, by first | exact True.intro | with_reducible assumption | exact unhid (by with_reducible assumption) | rfl | (first | omega | (have z_ := unhid u4_; omega)) | trivial, by first | exact True.intro | with_reducible assumption | exact unhid (by with_reducible assumption) | rfl | (first | omega | (have z_ := unhid u4_; omega)) | trivial, by first | exact True.intro | with_reducible assumption | exact unhid (by with_reducible assumption) | rfl | (first | omega | (have z_ := unhid u4_; omega)) | trivial⟩⟩)⟩
        · skip
          obtain ⟨h78_0, h78_1, h78_2, h78_3, h78_4, h78_5, h78_6, h78_7, h78_8, h78_9⟩ := h78
          have w89 : dt79 79 2 = dt 79 2 := h78_4.trans w65
          have w90 : dt79 79 9 = dt 79 9 := h78_5.trans w66
          have w91 : dt79 79 10 = dt 79 10 := h78_6.trans w67
          have w92 : dt79 79 12 = dt 79 12 := h78_7.trans w69
          have w93 : dt79 79 17 = dt 79 17 := h78_8.trans w74
          have w94 : dt79 79 20 = 0 := h78_9.trans w76
          obtain ⟨j95, ej96, hc97⟩ := RSX_1 h78_0 (by decide)
          have hp98 : (gLF (KF 1 b n) (VF b n) (dt 79 10)) i = (gL2 (KF 1 b n) (VF b n)) j95 := hp39.trans ((show (gL1 (KF 1 b n) (VF b n)) (i + 1) = gB ((gE (KF 1 b n) (VF b n)) (i + 1)) (gL2 (KF 1 b n) (VF b n)) by rfl).trans (by rw [ej96]; exact gB_0))
          have hi99 : j95 ≤ t := by have z := gE_M (K := (KF 1 b n)) (V := (VF b n)) (i := (i + 1)) hz; rw [ej96] at z; have y := z rfl; simp only at y; (first | omega | (have z_ := unhid u4_; omega))
          clear cr40 cb41 cd41 cv42 ck43
          have cr100 := hid (CUR_R hc97 (.inr rfl))
          have cd101 := CUR_d (hc97)
          have cb101 := hid (CUR_b hc97)
          have cv102 := hid (CUR_v hc97)
          have ck103 := hid (KZ_lt (i := j95) hz)
          have c1104 := (hc97).1
          have ci105 := hi99
          clear h78_4 w65 h78_5 w66 h78_6 w67 h78_7 w69 h78_8 w74 h78_9 w76
          have r106 : 0 ≤ dt79 79 10 ∧ dt79 79 10 ≤ 24 := InvC_get hI80 79 10 rfl rfl
          have r107 : 0 ≤ dt79 79 11 ∧ dt79 79 11 ≤ 510 := InvC_get hI80 79 11 rfl rfl
          refine go_toq PM173 (k := 11) (pc' := 145) (L' := [some (.inr (.inr (some 79))), some (.inl 0)]) (st' := [.inl (dt79 79 11), .inl ((4 * (dt79 79 10)) + 2), .inr (.inr (some 83))]) (w' := (SH, dt79)) rfl ?_
          have u5_ := hid (And.intro (unhid c6) (And.intro (unhid c7) (And.intro (unhid cr100) (And.intro (unhid cb101) (And.intro (unhid cv102) (unhid ck103))))))
          have hI108 : InvC (u2 dt79 83 (((4 * (dt79 79 10)) + 2).toNat) (dt79 79 11)) := InvC_u2 hI80 (lo := -2147483648) (hi := 2147483647) rfl rfl rfl (by first | exact bnd1 r107 (by decide) | (first | omega | (have z_ := unhid u5_; omega))) (by first | exact bnd2 r107 (by decide) | (first | omega | (have z_ := unhid u5_; omega)))
          have hF109 : Fr [79, 83, 84] dt (u2 dt79 83 (((4 * (dt79 79 10)) + 2).toNat) (dt79 79 11)) := Fr_u2 hF82 (by decide)
          have w110 : (u2 dt79 83 (((4 * (dt79 79 10)) + 2).toNat) (dt79 79 11)) 79 2 = dt 79 2 := w89
          have w111 : (u2 dt79 83 (((4 * (dt79 79 10)) + 2).toNat) (dt79 79 11)) 79 9 = dt 79 9 := w90
          have w112 : (u2 dt79 83 (((4 * (dt79 79 10)) + 2).toNat) (dt79 79 11)) 79 10 = dt 79 10 := w91
          have w113 : (u2 dt79 83 (((4 * (dt79 79 10)) + 2).toNat) (dt79 79 11)) 79 11 = dt79 79 11 := rfl
          have w114 : (u2 dt79 83 (((4 * (dt79 79 10)) + 2).toNat) (dt79 79 11)) 79 12 = dt 79 12 := w92
          have w115 : (u2 dt79 83 (((4 * (dt79 79 10)) + 2).toNat) (dt79 79 11)) 79 13 = dt79 79 13 := rfl
          have w116 : (u2 dt79 83 (((4 * (dt79 79 10)) + 2).toNat) (dt79 79 11)) 79 14 = dt79 79 14 := rfl
          have w117 : (u2 dt79 83 (((4 * (dt79 79 10)) + 2).toNat) (dt79 79 11)) 79 15 = dt79 79 15 := rfl
          have w118 : (u2 dt79 83 (((4 * (dt79 79 10)) + 2).toNat) (dt79 79 11)) 79 16 = dt79 79 16 := rfl
          have w119 : (u2 dt79 83 (((4 * (dt79 79 10)) + 2).toNat) (dt79 79 11)) 79 17 = dt 79 17 := w93
          have w120 : (u2 dt79 83 (((4 * (dt79 79 10)) + 2).toNat) (dt79 79 11)) 79 18 = dt79 79 18 := rfl
          have w121 : (u2 dt79 83 (((4 * (dt79 79 10)) + 2).toNat) (dt79 79 11)) 79 20 = 0 := w94
          have hc122 : CUR 1 b n (u2 dt79 83 (((4 * (dt79 79 10)) + 2).toNat) (dt79 79 11)) j95 := CUR_sm hc97 rfl rfl rfl rfl
          refine go_smpq PM173 (L' := [some (.inr (.inr (some 79))), some (.inl 0)]) (st' := []) (w' := (SH, (u2 dt79 83 (((4 * (dt79 79 10)) + 2).toNat) (dt79 79 11)))) rfl rfl (s_iast (n := 64) rfl ⟨by (first | omega | (have z_ := unhid u5_; omega)), by (first | omega | (have z_ := unhid u5_; omega))⟩ (by first | exact bnd r107 (by decide) (by decide) | exact ⟨by (first | omega | (have z_ := unhid u5_; omega)), by (first | omega | (have z_ := unhid u5_; omega))⟩)) ?_
          have r123 : (-2147483648) ≤ dt79 79 14 ∧ dt79 79 14 ≤ 2147483647 := InvC_get hI80 79 14 rfl rfl
          refine go_ifq PM173 (k := 3) (p1 := 167) (p2 := 154) (L' := [some (.inr (.inr (some 79))), some (.inl 0)]) (st' := []) (w' := (SH, (u2 dt79 83 (((4 * (dt79 79 10)) + 2).toNat) (dt79 79 11)))) rfl (c_ne (a := dt79 79 14) (b := 3) (by first | exact bnd r123 (by decide) (by decide) | exact ⟨by (first | omega | (have z_ := unhid u5_; omega)), by (first | omega | (have z_ := unhid u5_; omega))⟩) ⟨by decide, by decide⟩) (fun c124 => ?_) (fun c124 => ?_)
          · skip
            replace c124 := hid c124
            refine go_toq PM173 (k := 10) (pc' := 183) (L' := [some (.inr (.inr (some 79))), some (.inl 0)]) (st' := [.inl (dt79 79 11), .inl ((4 * (dt79 79 10)) + 3), .inr (.inr (some 83))]) (w' := (SH, (u2 dt79 83 (((4 * (dt79 79 10)) + 2).toNat) (dt79 79 11)))) rfl ?_
            have u6_ := hid (And.intro (unhid c6) (And.intro (unhid c7) (And.intro (unhid cr100) (And.intro (unhid cb101) (And.intro (unhid cv102) (And.intro (unhid ck103) (unhid c124)))))))
            have hI125 : InvC (u2 (u2 dt79 83 (((4 * (dt79 79 10)) + 2).toNat) (dt79 79 11)) 83 (((4 * (dt79 79 10)) + 3).toNat) (dt79 79 11)) := InvC_u2 hI108 (lo := -2147483648) (hi := 2147483647) rfl rfl rfl (by first | exact bnd1 r107 (by decide) | (first | omega | (have z_ := unhid u6_; omega))) (by first | exact bnd2 r107 (by decide) | (first | omega | (have z_ := unhid u6_; omega)))
            have hF126 : Fr [79, 83, 84] dt (u2 (u2 dt79 83 (((4 * (dt79 79 10)) + 2).toNat) (dt79 79 11)) 83 (((4 * (dt79 79 10)) + 3).toNat) (dt79 79 11)) := Fr_u2 hF109 (by decide)
            have w127 : (u2 (u2 dt79 83 (((4 * (dt79 79 10)) + 2).toNat) (dt79 79 11)) 83 (((4 * (dt79 79 10)) + 3).toNat) (dt79 79 11)) 79 2 = dt 79 2 := w110
            have w128 : (u2 (u2 dt79 83 (((4 * (dt79 79 10)) + 2).toNat) (dt79 79 11)) 83 (((4 * (dt79 79 10)) + 3).toNat) (dt79 79 11)) 79 9 = dt 79 9 := w111
            have w129 : (u2 (u2 dt79 83 (((4 * (dt79 79 10)) + 2).toNat) (dt79 79 11)) 83 (((4 * (dt79 79 10)) + 3).toNat) (dt79 79 11)) 79 10 = dt 79 10 := w112
            have w130 : (u2 (u2 dt79 83 (((4 * (dt79 79 10)) + 2).toNat) (dt79 79 11)) 83 (((4 * (dt79 79 10)) + 3).toNat) (dt79 79 11)) 79 11 = dt79 79 11 := w113
            have w131 : (u2 (u2 dt79 83 (((4 * (dt79 79 10)) + 2).toNat) (dt79 79 11)) 83 (((4 * (dt79 79 10)) + 3).toNat) (dt79 79 11)) 79 12 = dt 79 12 := w114
            have w132 : (u2 (u2 dt79 83 (((4 * (dt79 79 10)) + 2).toNat) (dt79 79 11)) 83 (((4 * (dt79 79 10)) + 3).toNat) (dt79 79 11)) 79 13 = dt79 79 13 := w115
            have w133 : (u2 (u2 dt79 83 (((4 * (dt79 79 10)) + 2).toNat) (dt79 79 11)) 83 (((4 * (dt79 79 10)) + 3).toNat) (dt79 79 11)) 79 14 = dt79 79 14 := w116
            have w134 : (u2 (u2 dt79 83 (((4 * (dt79 79 10)) + 2).toNat) (dt79 79 11)) 83 (((4 * (dt79 79 10)) + 3).toNat) (dt79 79 11)) 79 15 = dt79 79 15 := w117
            have w135 : (u2 (u2 dt79 83 (((4 * (dt79 79 10)) + 2).toNat) (dt79 79 11)) 83 (((4 * (dt79 79 10)) + 3).toNat) (dt79 79 11)) 79 16 = dt79 79 16 := w118
            have w136 : (u2 (u2 dt79 83 (((4 * (dt79 79 10)) + 2).toNat) (dt79 79 11)) 83 (((4 * (dt79 79 10)) + 3).toNat) (dt79 79 11)) 79 17 = dt 79 17 := w119
            have w137 : (u2 (u2 dt79 83 (((4 * (dt79 79 10)) + 2).toNat) (dt79 79 11)) 83 (((4 * (dt79 79 10)) + 3).toNat) (dt79 79 11)) 79 18 = dt79 79 18 := w120
            have w138 : (u2 (u2 dt79 83 (((4 * (dt79 79 10)) + 2).toNat) (dt79 79 11)) 83 (((4 * (dt79 79 10)) + 3).toNat) (dt79 79 11)) 79 20 = 0 := w121
            clear w110 w111 w112 w113 w114 w115 w116 w117 w118 w119 w120 w121
            have hc139 : CUR 1 b n (u2 (u2 dt79 83 (((4 * (dt79 79 10)) + 2).toNat) (dt79 79 11)) 83 (((4 * (dt79 79 10)) + 3).toNat) (dt79 79 11)) j95 := CUR_sm hc122 rfl rfl rfl rfl
            refine go_smpq PM173 (L' := [some (.inr (.inr (some 79))), some (.inl 0)]) (st' := []) (w' := (SH, (u2 (u2 dt79 83 (((4 * (dt79 79 10)) + 2).toNat) (dt79 79 11)) 83 (((4 * (dt79 79 10)) + 3).toNat) (dt79 79 11)))) rfl rfl (s_iast (n := 64) rfl ⟨by (first | omega | (have z_ := unhid u6_; omega)), by (first | omega | (have z_ := unhid u6_; omega))⟩ (by first | exact bnd r107 (by decide) (by decide) | exact ⟨by (first | omega | (have z_ := unhid u6_; omega)), by (first | omega | (have z_ := unhid u6_; omega))⟩)) ?_
            refine go_toq PM173 (k := 2) (pc' := 188) (L' := [some (.inr (.inr (some 79))), some (.inl 0)]) (st' := [.inl 159, .inr (.inr (some 79))]) (w' := (SH, (u2 (u2 dt79 83 (((4 * (dt79 79 10)) + 2).toNat) (dt79 79 11)) 83 (((4 * (dt79 79 10)) + 3).toNat) (dt79 79 11)))) rfl ?_
            refine go_callq PM173 PM161 (Q' := _) rfl rfl rfl rfl (sp_X6_need0_g1 L xs sio (d + 29) (u2 (u2 dt79 83 (((4 * (dt79 79 10)) + 2).toNat) (dt79 79 11)) 83 (((4 * (dt79 79 10)) + 3).toNat) (dt79 79 11)) hI125 b n t j95 (by first | exact hbb | (rw [show (u2 (u2 dt79 83 (((4 * (dt79 79 10)) + 2).toNat) (dt79 79 11)) 83 (((4 * (dt79 79 10)) + 3).toNat) (dt79 79 11)) 85 = dt 85 from funext (hF126 85 (by decide)), show (u2 (u2 dt79 83 (((4 * (dt79 79 10)) + 2).toNat) (dt79 79 11)) 83 (((4 * (dt79 79 10)) + 3).toNat) (dt79 79 11)) 79 12 = dt 79 12 by first | with_reducible assumption | exact unhid (by with_reducible assumption) | (first | omega | (have z_ := unhid u6_; omega))]; exact hbb)) (by first | with_reducible assumption | exact unhid (by with_reducible assumption) | exact Eq.trans (by with_reducible assumption) hnn | (first | omega | (have z_ := unhid u6_; omega))) hz ht hc139 hi99 hn5 159 ⟨by decide, by decide⟩ (by first | exact True.intro | with_reducible assumption | exact unhid (by with_reducible assumption) | rfl | (first | omega | (have z_ := unhid u6_; omega)) | trivial)) ?_
            rintro _ _ ⟨dt141, rfl, hI142, hF143, h140⟩
            refine ⟨rfl, ?_⟩
            have hF144 : Fr [79, 83, 84] dt dt141 := Fr_tr hF126 hF143 (by decide)
            rcases h140 with ⟨rfl, h140⟩ | ⟨rfl, h140⟩
            · skip
              obtain ⟨h140_0, h140_1, h140_2, h140_3, h140_4⟩ := h140
              have w145 : dt141 79 2 = dt 79 2 := h140_1.trans w127
              have w146 : dt141 79 9 = dt 79 9 := h140_2.trans w128
              have w147 : dt141 79 10 = dt 79 10 := h140_3.trans w129
              have w148 : dt141 79 12 = dt 79 12 := h140_4.trans w131
              have fl149 := RSX_0 h140_0 rfl
              have fe150 : (gLF (KF 1 b n) (VF b n) (dt 79 10)) i = (gK (KF 1 b n) (159 - 100)) j95 := hp98.trans ((show (gL2 (KF 1 b n) (VF b n)) j95 = gB ((gK (KF 1 b n) (159 - 100)) j95) gOk by first | exact gB_id.symm | exact gL2_n (by (first | omega | (have z_ := unhid u6_; omega)))).trans (gB_no fl149.1))
              clear h140_1 w127 h140_2 w128 h140_3 w129 h140_4 w131
              refine go_retq PM173 (k := 0) (r := some (.inl 0)) (w1 := (SH, dt141)) rfl ?_
              exact ⟨dt141, rfl, hI142, hF144, (Or.inl ⟨rfl, ⟨by exact RSX_f fe150 fl149 (by first | rfl | with_reducible assumption | exact unhid (by with_reducible assumption) | (first | omega | (have z_ := unhid u6_; omega))) (by first | rfl | with_reducible assumption | exact unhid (by with_reducible assumption) | (first | omega | (have z_ := unhid u6_; omega))), by first | exact True.intro | with_reducible assumption | exact unhid (by with_reducible assumption) | rfl | (first | omega | (have z_ := unhid u6_; omega)) | trivial, by first | exact True.intro | with_reducible assumption | exact unhid (by with_reducible assumption) | rfl | (first | omega | (have z_ := unhid u6_; omega)) | trivial, by first | exact True.intro | with_reducible assumption | exact unhid (by with_reducible assumption) | rfl | (first | omega | (have z_ := unhid u6_; omega)) | trivial, by first | exact True.intro | with_reducible assumption | exact unhid (by with_reducible assumption) | rfl | (first | omega | (have z_ := unhid u6_; omega)) | trivial⟩⟩)⟩
            · skip
              obtain ⟨h140_0, h140_1, h140_2, h140_3, h140_4, h140_5, h140_6, h140_7, h140_8, h140_9⟩ := h140
              have w151 : dt141 79 2 = dt 79 2 := h140_3.trans w127
              have w152 : dt141 79 9 = dt 79 9 := h140_4.trans w128
              have w153 : dt141 79 10 = dt 79 10 := h140_5.trans w129
              have w154 : dt141 79 11 = dt79 79 11 := h140_6.trans w130
              have w155 : dt141 79 12 = dt 79 12 := h140_7.trans w131
              have w156 : dt141 79 17 = dt 79 17 := h140_8.trans w136
              have w157 : dt141 79 20 = 0 := h140_9.trans w138
              obtain ⟨j158, ej159, hc160⟩ := RSX_1 h140_0 (by decide)
              have hp161 : (gLF (KF 1 b n) (VF b n) (dt 79 10)) i = gOk j158 := hp98.trans ((show (gL2 (KF 1 b n) (VF b n)) j95 = gB ((gK (KF 1 b n) (159 - 100)) j95) gOk by first | exact gB_id.symm | exact gL2_n (by (have z_ := unhid u6_; omega))).trans (by rw [ej159]; exact gB_0))
              have hi162 : j158 ≤ t := by have z := (fun (h : KZ (KF 1 b n) t) => gK_M (K := (KF 1 b n)) (k := 159 - 100) (i := j95) h (by decide)) hz; rw [ej159] at z; have y := z rfl; simp only at y; (first | omega | (have z_ := unhid u6_; omega))
              clear cr100 cb101 cd101 cv102 ck103
              have cr163 := hid (CUR_R hc160 (.inr rfl))
              have cd164 := CUR_d (hc160)
              have cb164 := hid (CUR_b hc160)
              have cv165 := hid (CUR_v hc160)
              have ck166 := hid (KZ_lt (i := j158) hz)
              have c1167 := (hc160).1
              have ci168 := hi162
              clear h140_3 w127 h140_4 w128 h140_5 w129 h140_6 w130 h140_7 w131 h140_8 w136 h140_9 w138
              refine go_retq PM173 (k := 0) (r := some (.inl 1)) (w1 := (SH, dt141)) rfl ?_
              have u7_ := hid (And.intro (unhid c6) (And.intro (unhid c7) (And.intro (unhid c124) (And.intro (unhid cr163) (And.intro (unhid cb164) (And.intro (unhid cv165) (unhid ck166)))))))
              exact ⟨dt141, rfl, hI142, hF144, (Or.inr ⟨rfl, ⟨by exact RSX_ok (hp161.trans (by rfl)) hc160, by first | exact True.intro | with_reducible assumption | exact unhid (by with_reducible assumption) | rfl | (first | omega | (have z_ := unhid u7_; omega)) | trivial, by first | exact True.intro | with_reducible assumption | exact unhid (by with_reducible assumption) | rfl | (first | omega | (have z_ := unhid u7_; omega)) | trivial, by first | exact True.intro | with_reducible assumption | exact unhid (by with_reducible assumption) | rfl | (first | omega | (have z_ := unhid u7_; omega)) | trivial, by first | exact True.intro | with_reducible assumption | exact unhid (by with_reducible assumption) | rfl | (first | omega | (have z_ := unhid u7_; omega)) | trivial, by exact (InvC_get (by assumption) 79 15 rfl rfl).2, by first | exact True.intro | with_reducible assumption | exact unhid (by with_reducible assumption) | rfl | (first | omega | (have z_ := unhid u7_; omega)) | trivial, by first | exact True.intro | with_reducible assumption | exact unhid (by with_reducible assumption) | rfl | (first | omega | (have z_ := unhid u7_; omega)) | trivial, by first | exact True.intro | with_reducible assumption | exact unhid (by with_reducible assumption) | rfl | (first | omega | (have z_ := unhid u7_; omega)) | trivial, by first | exact True.intro | with_reducible assumption | exact unhid (by with_reducible assumption) | rfl | (first | omega | (have z_ := unhid u7_; omega)) | trivial, by first | exact True.intro | with_reducible assumption | exact unhid (by with_reducible assumption) | rfl | (first | omega | (have z_ := unhid u7_; omega)) | trivial⟩⟩)⟩
          · skip
            refine go_toq PM173 (k := 1) (pc' := 155) (L' := [some (.inr (.inr (some 79))), some (.inl 0)]) (st' := [.inr (.inr (some 79))]) (w' := (SH, (u2 dt79 83 (((4 * (dt79 79 10)) + 2).toNat) (dt79 79 11)))) rfl ?_
            refine go_callq PM173 PM159 (Q' := _) rfl rfl rfl rfl (sp_X6_next0_p1 L xs sio (d + 30) (u2 dt79 83 (((4 * (dt79 79 10)) + 2).toNat) (dt79 79 11)) hI108   (by first | exact True.intro | with_reducible assumption | exact unhid (by with_reducible assumption) | rfl | (first | omega | (have z_ := unhid u5_; omega)) | trivial) (by first | exact True.intro | with_reducible assumption | exact unhid (by with_reducible assumption) | rfl | (first | omega | (have z_ := unhid u5_; omega)) | trivial)) ?_
            rintro _ _ ⟨dt170, rfl, hI171, hF172, h169⟩
            refine ⟨rfl, ?_⟩
            have hF173 : Fr [79, 83, 84] dt dt170 := Fr_tr hF109 hF172 (by decide)
            rcases h169 with ⟨rfl, h169⟩
            obtain ⟨h169_0, h169_1, h169_2, h169_3, h169_4, h169_5, h169_6, h169_7, h169_8⟩ := h169
            have w174 : dt170 79 2 = dt 79 2 := h169_2.trans w110
            have w175 : dt170 79 9 = dt 79 9 := h169_3.trans w111
            have w176 : dt170 79 10 = dt 79 10 := h169_4.trans w112
            have w177 : dt170 79 11 = dt79 79 11 := h169_5.trans w113
            have w178 : dt170 79 12 = dt 79 12 := h169_6.trans w114
            have w179 : dt170 79 17 = dt 79 17 := h169_7.trans w119
            have w180 : dt170 79 20 = 0 := h169_8.trans w121
            have hq181 := h169_0
            rw [show (u2 dt79 83 (((4 * (dt79 79 10)) + 2).toNat) (dt79 79 11)) 85 = dt 85 from funext (hF109 85 (by decide)), show (u2 dt79 83 (((4 * (dt79 79 10)) + 2).toNat) (dt79 79 11)) 79 12 = dt 79 12 by first | with_reducible assumption | exact unhid (by with_reducible assumption) | (first | omega | (have z_ := unhid u5_; omega)), hbb, show (dt 79 12).toNat = n from (congrArg Int.toNat hnn).trans (Int.toNat_natCast n)] at hq181
            have hc182 : CUR 1 b n dt170 (j95 + 1) := CUR_n hc122 hq181
            have hi183 : j95 + 1 ≤ t := by (have z_ := unhid u5_; omega)
            have av184 : (u2 dt79 83 (((4 * (dt79 79 10)) + 2).toNat) (dt79 79 11)) 79 15 + 1 ≤ (u2 dt79 83 (((4 * (dt79 79 10)) + 2).toNat) (dt79 79 11)) 79 13 := by (have z_ := unhid u5_; omega)
            have hp185 : (gLF (KF 1 b n) (VF b n) (dt 79 10)) i = (fun i => gB (gB_ (KF 1 b n) (VF b n) 8 i) (gK (KF 1 b n) 59)) (j95 + 1) := hp98.trans (by exact gL2_w (by (have z_ := unhid u5_; omega)))
            clear cr100 cb101 cd101 cv102 ck103
            have cr186 := hid (CUR_R hc182 (.inr rfl))
            have cd187 := CUR_d (hc182)
            have cb187 := hid (CUR_b hc182)
            have cv188 := hid (CUR_v hc182)
            have ck189 := hid (KZ_lt (i := (j95 + 1)) hz)
            have c1190 := (hc182).1
            have ci191 := hi183
            clear h169_2 w110 h169_3 w111 h169_4 w112 h169_5 w113 h169_6 w114 h169_7 w119 h169_8 w121
            refine go_toq PM173 (k := 1) (pc' := 159) (L' := [some (.inr (.inr (some 79))), some (.inl 0)]) (st' := [.inr (.inr (some 79))]) (w' := (SH, dt170)) rfl ?_
            have u8_ := hid (And.intro (unhid c6) (And.intro (unhid c7) (And.intro (unhid cr186) (And.intro (unhid cb187) (And.intro (unhid cv188) (unhid ck189))))))
            refine go_callq PM173 PM168 (Q' := _) rfl rfl rfl rfl (sp_X6_any_g0 L xs sio (d + 0) dt170 hI171 b n t (j95 + 1) (by first | exact hbb | (rw [show dt170 85 = dt 85 from funext (hF173 85 (by decide)), show dt170 79 12 = dt 79 12 by first | with_reducible assumption | exact unhid (by with_reducible assumption) | (first | omega | (have z_ := unhid u8_; omega))]; exact hbb)) (by first | with_reducible assumption | exact unhid (by with_reducible assumption) | exact Eq.trans (by with_reducible assumption) hnn | (first | omega | (have z_ := unhid u8_; omega))) hz ht hc182 hi183 hn5  (by first | exact True.intro | with_reducible assumption | exact unhid (by with_reducible assumption) | rfl | (first | omega | (have z_ := unhid u8_; omega)) | trivial) (by first | exact True.intro | with_reducible assumption | exact unhid (by with_reducible assumption) | rfl | (first | omega | (have z_ := unhid u8_; omega)) | trivial) (by first | exact True.intro | with_reducible assumption | exact unhid (by with_reducible assumption) | rfl | (first | omega | (have z_ := unhid u8_; omega)) | trivial)) ?_
            rintro _ _ ⟨dt193, rfl, hI194, hF195, h192⟩
            refine ⟨rfl, ?_⟩
            have hF196 : Fr [79, 83, 84] dt dt193 := Fr_tr hF173 hF195 (by decide)
            rcases h192 with ⟨rfl, h192⟩ | ⟨rfl, h192⟩
            · skip
              obtain ⟨h192_0, h192_1, h192_2, h192_3, h192_4⟩ := h192
              have w197 : dt193 79 2 = dt 79 2 := h192_1.trans w174
              have w198 : dt193 79 9 = dt 79 9 := h192_2.trans w175
              have w199 : dt193 79 10 = dt 79 10 := h192_3.trans w176
              have w200 : dt193 79 12 = dt 79 12 := h192_4.trans w178
              have fl201 := RSX_0 h192_0 rfl
              have fe202 : (gLF (KF 1 b n) (VF b n) (dt 79 10)) i = (gB_ (KF 1 b n) (VF b n) 8) (j95 + 1) := hp185.trans ((show (fun i => gB (gB_ (KF 1 b n) (VF b n) 8 i) (gK (KF 1 b n) 59)) (j95 + 1) = gB ((gB_ (KF 1 b n) (VF b n) 8) (j95 + 1)) (gK (KF 1 b n) 59) by rfl).trans (gB_no fl201.1))
              clear h192_1 w174 h192_2 w175 h192_3 h192_4 w178
              refine go_retq PM173 (k := 2) (r := some (.inl 0)) (w1 := (SH, dt193)) rfl ?_
              exact ⟨dt193, rfl, hI194, hF196, (Or.inl ⟨rfl, ⟨by exact RSX_f fe202 fl201 (by first | rfl | with_reducible assumption | exact unhid (by with_reducible assumption) | (first | omega | (have z_ := unhid u8_; omega))) (by first | rfl | with_reducible assumption | exact unhid (by with_reducible assumption) | (first | omega | (have z_ := unhid u8_; omega))), by first | exact True.intro | with_reducible assumption | exact unhid (by with_reducible assumption) | rfl | (first | omega | (have z_ := unhid u8_; omega)) | trivial, by first | exact True.intro | with_reducible assumption | exact unhid (by with_reducible assumption) | rfl | (first | omega | (have z_ := unhid u8_; omega)) | trivial, by first | exact True.intro | with_reducible assumption | exact unhid (by with_reducible assumption) | rfl | (first | omega | (have z_ := unhid u8_; omega)) | trivial, by first | exact True.intro | with_reducible assumption | exact unhid (by with_reducible assumption) | rfl | (first | omega | (have z_ := unhid u8_; omega)) | trivial⟩⟩)⟩
            · skip
              obtain ⟨h192_0, h192_1, h192_2, h192_3, h192_4, h192_5, h192_6, h192_7, h192_8, h192_9⟩ := h192
              have w203 : dt193 79 2 = dt 79 2 := h192_4.trans w174
              have w204 : dt193 79 9 = dt 79 9 := h192_5.trans w175
              have w205 : dt193 79 10 = dt 79 10 := h192_6.trans w176
              have w206 : dt193 79 12 = dt 79 12 := h192_7.trans w178
              have w207 : dt193 79 17 = dt 79 17 := h192_8.trans w179
              have w208 : dt193 79 20 = 0 := h192_9.trans w180
              obtain ⟨j209, ej210, hc211⟩ := RSX_1 h192_0 (by decide)
              have hp212 : (gLF (KF 1 b n) (VF b n) (dt 79 10)) i = (gK (KF 1 b n) 59) j209 := hp185.trans ((show (fun i => gB (gB_ (KF 1 b n) (VF b n) 8 i) (gK (KF 1 b n) 59)) (j95 + 1) = gB ((gB_ (KF 1 b n) (VF b n) 8) (j95 + 1)) (gK (KF 1 b n) 59) by rfl).trans (by rw [ej210]; exact gB_0))
              have hi213 : j209 ≤ t := by have z := gB__M (K := (KF 1 b n)) (V := (VF b n)) (d := 8) (i := (j95 + 1)) hz; rw [ej210] at z; have y := z rfl; simp only at y; (first | omega | (have z_ := unhid u8_; omega))
              clear cr186 cb187 cd187 cv188 ck189
              have cr214 := hid (CUR_R hc211 (.inr rfl))
              have cd215 := CUR_d (hc211)
              have cb215 := hid (CUR_b hc211)
              have cv216 := hid (CUR_v hc211)
              have ck217 := hid (KZ_lt (i := j209) hz)
              have c1218 := (hc211).1
              have ci219 := hi213
              clear h192_4 w174 h192_5 w175 h192_6 h192_7 w178 h192_8 w179 h192_9 w180
              have r220 : 0 ≤ dt193 79 10 ∧ dt193 79 10 ≤ 24 := InvC_get hI194 79 10 rfl rfl
              have r221 : 0 ≤ dt193 79 11 ∧ dt193 79 11 ≤ 510 := InvC_get hI194 79 11 rfl rfl
              refine go_toq PM173 (k := 11) (pc' := 183) (L' := [some (.inr (.inr (some 79))), some (.inl 0)]) (st' := [.inl (dt193 79 11), .inl ((4 * (dt193 79 10)) + 3), .inr (.inr (some 83))]) (w' := (SH, dt193)) rfl ?_
              have u9_ := hid (And.intro (unhid c6) (And.intro (unhid c7) (And.intro (unhid cr214) (And.intro (unhid cb215) (And.intro (unhid cv216) (unhid ck217))))))
              have hI222 : InvC (u2 dt193 83 (((4 * (dt193 79 10)) + 3).toNat) (dt193 79 11)) := InvC_u2 hI194 (lo := -2147483648) (hi := 2147483647) rfl rfl rfl (by first | exact bnd1 r221 (by decide) | (first | omega | (have z_ := unhid u9_; omega))) (by first | exact bnd2 r221 (by decide) | (first | omega | (have z_ := unhid u9_; omega)))
              have hF223 : Fr [79, 83, 84] dt (u2 dt193 83 (((4 * (dt193 79 10)) + 3).toNat) (dt193 79 11)) := Fr_u2 hF196 (by decide)
              have w224 : (u2 dt193 83 (((4 * (dt193 79 10)) + 3).toNat) (dt193 79 11)) 79 2 = dt 79 2 := w203
              have w225 : (u2 dt193 83 (((4 * (dt193 79 10)) + 3).toNat) (dt193 79 11)) 79 9 = dt 79 9 := w204
              have w226 : (u2 dt193 83 (((4 * (dt193 79 10)) + 3).toNat) (dt193 79 11)) 79 10 = dt 79 10 := w205
              have w227 : (u2 dt193 83 (((4 * (dt193 79 10)) + 3).toNat) (dt193 79 11)) 79 11 = dt193 79 11 := rfl
              have w228 : (u2 dt193 83 (((4 * (dt193 79 10)) + 3).toNat) (dt193 79 11)) 79 12 = dt 79 12 := w206
              have w229 : (u2 dt193 83 (((4 * (dt193 79 10)) + 3).toNat) (dt193 79 11)) 79 13 = dt193 79 13 := rfl
              have w230 : (u2 dt193 83 (((4 * (dt193 79 10)) + 3).toNat) (dt193 79 11)) 79 14 = dt193 79 14 := rfl
              have w231 : (u2 dt193 83 (((4 * (dt193 79 10)) + 3).toNat) (dt193 79 11)) 79 15 = dt193 79 15 := rfl
              have w232 : (u2 dt193 83 (((4 * (dt193 79 10)) + 3).toNat) (dt193 79 11)) 79 16 = dt193 79 16 := rfl
              have w233 : (u2 dt193 83 (((4 * (dt193 79 10)) + 3).toNat) (dt193 79 11)) 79 17 = dt 79 17 := w207
              have w234 : (u2 dt193 83 (((4 * (dt193 79 10)) + 3).toNat) (dt193 79 11)) 79 18 = dt193 79 18 := rfl
              have w235 : (u2 dt193 83 (((4 * (dt193 79 10)) + 3).toNat) (dt193 79 11)) 79 20 = 0 := w208
              have hc236 : CUR 1 b n (u2 dt193 83 (((4 * (dt193 79 10)) + 3).toNat) (dt193 79 11)) j209 := CUR_sm hc211 rfl rfl rfl rfl
              refine go_smpq PM173 (L' := [some (.inr (.inr (some 79))), some (.inl 0)]) (st' := []) (w' := (SH, (u2 dt193 83 (((4 * (dt193 79 10)) + 3).toNat) (dt193 79 11)))) rfl rfl (s_iast (n := 64) rfl ⟨by (first | omega | (have z_ := unhid u9_; omega)), by (first | omega | (have z_ := unhid u9_; omega))⟩ (by first | exact bnd r221 (by decide) (by decide) | exact ⟨by (first | omega | (have z_ := unhid u9_; omega)), by (first | omega | (have z_ := unhid u9_; omega))⟩)) ?_
              refine go_toq PM173 (k := 2) (pc' := 188) (L' := [some (.inr (.inr (some 79))), some (.inl 0)]) (st' := [.inl 159, .inr (.inr (some 79))]) (w' := (SH, (u2 dt193 83 (((4 * (dt193 79 10)) + 3).toNat) (dt193 79 11)))) rfl ?_
              refine go_callq PM173 PM161 (Q' := _) rfl rfl rfl rfl (sp_X6_need0_g1 L xs sio (d + 29) (u2 dt193 83 (((4 * (dt193 79 10)) + 3).toNat) (dt193 79 11)) hI222 b n t j209 (by first | exact hbb | (rw [show (u2 dt193 83 (((4 * (dt193 79 10)) + 3).toNat) (dt193 79 11)) 85 = dt 85 from funext (hF223 85 (by decide)), show (u2 dt193 83 (((4 * (dt193 79 10)) + 3).toNat) (dt193 79 11)) 79 12 = dt 79 12 by first | with_reducible assumption | exact unhid (by with_reducible assumption) | (first | omega | (have z_ := unhid u9_; omega))]; exact hbb)) (by first | with_reducible assumption | exact unhid (by with_reducible assumption) | exact Eq.trans (by with_reducible assumption) hnn | (first | omega | (have z_ := unhid u9_; omega))) hz ht hc236 hi213 hn5 159 ⟨by decide, by decide⟩ (by first | exact True.intro | with_reducible assumption | exact unhid (by with_reducible assumption) | rfl | (first | omega | (have z_ := unhid u9_; omega)) | trivial)) ?_
              rintro _ _ ⟨dt238, rfl, hI239, hF240, h237⟩
              refine ⟨rfl, ?_⟩
              have hF241 : Fr [79, 83, 84] dt dt238 := Fr_tr hF223 hF240 (by decide)
              rcases h237 with ⟨rfl, h237⟩ | ⟨rfl, h237⟩
              · skip
                obtain ⟨h237_0, h237_1, h237_2, h237_3, h237_4⟩ := h237
                have w242 : dt238 79 2 = dt 79 2 := h237_1.trans w224
                have w243 : dt238 79 9 = dt 79 9 := h237_2.trans w225
                have w244 : dt238 79 10 = dt 79 10 := h237_3.trans w226
                have w245 : dt238 79 12 = dt 79 12 := h237_4.trans w228
                have fl246 := RSX_0 h237_0 rfl
                have fe247 : (gLF (KF 1 b n) (VF b n) (dt 79 10)) i = (gK (KF 1 b n) (159 - 100)) j209 := hp212.trans ((show (gK (KF 1 b n) 59) j209 = gB ((gK (KF 1 b n) (159 - 100)) j209) gOk by first | exact gB_id.symm | exact gL2_n (by (first | omega | (have z_ := unhid u9_; omega)))).trans (gB_no fl246.1))
                clear h237_1 w224 h237_2 w225 h237_3 w226 h237_4 w228
                refine go_retq PM173 (k := 0) (r := some (.inl 0)) (w1 := (SH, dt238)) rfl ?_
                exact ⟨dt238, rfl, hI239, hF241, (Or.inl ⟨rfl, ⟨by exact RSX_f fe247 fl246 (by first | rfl | with_reducible assumption | exact unhid (by with_reducible assumption) | (first | omega | (have z_ := unhid u9_; omega))) (by first | rfl | with_reducible assumption | exact unhid (by with_reducible assumption) | (first | omega | (have z_ := unhid u9_; omega))), by first | exact True.intro | with_reducible assumption | exact unhid (by with_reducible assumption) | rfl | (first | omega | (have z_ := unhid u9_; omega)) | trivial, by first | exact True.intro | with_reducible assumption | exact unhid (by with_reducible assumption) | rfl | (first | omega | (have z_ := unhid u9_; omega)) | trivial, by first | exact True.intro | with_reducible assumption | exact unhid (by with_reducible assumption) | rfl | (first | omega | (have z_ := unhid u9_; omega)) | trivial, by first | exact True.intro | with_reducible assumption | exact unhid (by with_reducible assumption) | rfl | (first | omega | (have z_ := unhid u9_; omega)) | trivial⟩⟩)⟩
              · skip
                obtain ⟨h237_0, h237_1, h237_2, h237_3, h237_4, h237_5, h237_6, h237_7, h237_8, h237_9⟩ := h237
                have w248 : dt238 79 2 = dt 79 2 := h237_3.trans w224
                have w249 : dt238 79 9 = dt 79 9 := h237_4.trans w225
                have w250 : dt238 79 10 = dt 79 10 := h237_5.trans w226
                have w251 : dt238 79 11 = dt193 79 11 := h237_6.trans w227
                have w252 : dt238 79 12 = dt 79 12 := h237_7.trans w228
                have w253 : dt238 79 17 = dt 79 17 := h237_8.trans w233
                have w254 : dt238 79 20 = 0 := h237_9.trans w235
                obtain ⟨j255, ej256, hc257⟩ := RSX_1 h237_0 (by decide)
                have hp258 : (gLF (KF 1 b n) (VF b n) (dt 79 10)) i = gOk j255 := hp212.trans ((show (gK (KF 1 b n) 59) j209 = gB ((gK (KF 1 b n) (159 - 100)) j209) gOk by first | exact gB_id.symm | exact gL2_n (by (have z_ := unhid u9_; omega))).trans (by rw [ej256]; exact gB_0))
                have hi259 : j255 ≤ t := by have z := (fun (h : KZ (KF 1 b n) t) => gK_M (K := (KF 1 b n)) (k := 159 - 100) (i := j209) h (by decide)) hz; rw [ej256] at z; have y := z rfl; simp only at y; (first | omega | (have z_ := unhid u9_; omega))
                clear cr214 cb215 cd215 cv216 ck217
                have cr260 := hid (CUR_R hc257 (.inr rfl))
                have cd261 := CUR_d (hc257)
                have cb261 := hid (CUR_b hc257)
                have cv262 := hid (CUR_v hc257)
                have ck263 := hid (KZ_lt (i := j255) hz)
                have c1264 := (hc257).1
                have ci265 := hi259
                clear h237_3 w224 h237_4 w225 h237_5 w226 h237_6 w227 h237_7 w228 h237_8 w233 h237_9 w235
                refine go_retq PM173 (k := 0) (r := some (.inl 1)) (w1 := (SH, dt238)) rfl ?_
                have u10_ := hid (And.intro (unhid c6) (And.intro (unhid c7) (And.intro (unhid cr260) (And.intro (unhid cb261) (And.intro (unhid cv262) (unhid ck263))))))
                exact ⟨dt238, rfl, hI239, hF241, (Or.inr ⟨rfl, ⟨by exact RSX_ok (hp258.trans (by rfl)) hc257, by first | exact True.intro | with_reducible assumption | exact unhid (by with_reducible assumption) | rfl | (first | omega | (have z_ := unhid u10_; omega)) | trivial, by first | exact True.intro | with_reducible assumption | exact unhid (by with_reducible assumption) | rfl | (first | omega | (have z_ := unhid u10_; omega)) | trivial, by first | exact True.intro | with_reducible assumption | exact unhid (by with_reducible assumption) | rfl | (first | omega | (have z_ := unhid u10_; omega)) | trivial, by first | exact True.intro | with_reducible assumption | exact unhid (by with_reducible assumption) | rfl | (first | omega | (have z_ := unhid u10_; omega)) | trivial, by exact (InvC_get (by assumption) 79 15 rfl rfl).2, by first | exact True.intro | with_reducible assumption | exact unhid (by with_reducible assumption) | rfl | (first | omega | (have z_ := unhid u10_; omega)) | trivial, by first | exact True.intro | with_reducible assumption | exact unhid (by with_reducible assumption) | rfl | (first | omega | (have z_ := unhid u10_; omega)) | trivial, by first | exact True.intro | with_reducible assumption | exact unhid (by with_reducible assumption) | rfl | (first | omega | (have z_ := unhid u10_; omega)) | trivial, by first | exact True.intro | with_reducible assumption | exact unhid (by with_reducible assumption) | rfl | (first | omega | (have z_ := unhid u10_; omega)) | trivial, by first | exact True.intro | with_reducible assumption | exact unhid (by with_reducible assumption) | rfl | (first | omega | (have z_ := unhid u10_; omega)) | trivial⟩⟩)⟩
      · skip
        refine go_toq PM173 (k := 5) (pc' := 56) (L' := [some (.inr (.inr (some 79))), some (.inl 1)]) (st' := [.inl 0, .inr (.inr (some 79))]) (w' := (SH, dt)) rfl ?_
        have hI266 : InvC (u2 dt 79 20 0) := InvC_u2 hI (lo := 0) (hi := 8) rfl rfl rfl (by decide) (by decide)
        have hF267 : Fr [79, 83, 84] dt (u2 dt 79 20 0) := Fr_u2 hF (by decide)
        have w268 : (u2 dt 79 20 0) 79 2 = dt 79 2 := rfl
        have w269 : (u2 dt 79 20 0) 79 9 = dt 79 9 := rfl
        have w270 : (u2 dt 79 20 0) 79 10 = dt 79 10 := rfl
        have w271 : (u2 dt 79 20 0) 79 11 = dt 79 11 := rfl
        have w272 : (u2 dt 79 20 0) 79 12 = dt 79 12 := rfl
        have w273 : (u2 dt 79 20 0) 79 13 = dt 79 13 := rfl
        have w274 : (u2 dt 79 20 0) 79 14 = dt 79 14 := rfl
        have w275 : (u2 dt 79 20 0) 79 15 = dt 79 15 := rfl
        have w276 : (u2 dt 79 20 0) 79 16 = dt 79 16 := rfl
        have w277 : (u2 dt 79 20 0) 79 17 = dt 79 17 := rfl
        have w278 : (u2 dt 79 20 0) 79 18 = dt 79 18 := rfl
        have w279 : (u2 dt 79 20 0) 79 20 = 0 := rfl
        have hc280 : CUR 1 b n (u2 dt 79 20 0) i := CUR_sm hc rfl rfl rfl rfl
        refine go_smpq PM173 (L' := [some (.inr (.inr (some 79))), some (.inl 1)]) (st' := []) (w' := (SH, (u2 dt 79 20 0))) rfl rfl (s_pf rfl rfl rfl rfl ⟨by decide, by decide⟩) ?_
        refine go_toq PM173 (k := 1) (pc' := 60) (L' := [some (.inr (.inr (some 79))), some (.inl 1)]) (st' := [.inr (.inr (some 79))]) (w' := (SH, (u2 dt 79 20 0))) rfl ?_
        refine go_callq PM173 PM159 (Q' := _) rfl rfl rfl rfl (sp_X6_next0_p1 L xs sio (d + 30) (u2 dt 79 20 0) hI266   (by first | exact True.intro | with_reducible assumption | exact unhid (by with_reducible assumption) | rfl | (first | omega | (have z_ := unhid u2_; omega)) | trivial) (by first | exact True.intro | with_reducible assumption | exact unhid (by with_reducible assumption) | rfl | (first | omega | (have z_ := unhid u2_; omega)) | trivial)) ?_
        rintro _ _ ⟨dt282, rfl, hI283, hF284, h281⟩
        refine ⟨rfl, ?_⟩
        have hF285 : Fr [79, 83, 84] dt dt282 := Fr_tr hF267 hF284 (by decide)
        rcases h281 with ⟨rfl, h281⟩
        obtain ⟨h281_0, h281_1, h281_2, h281_3, h281_4, h281_5, h281_6, h281_7, h281_8⟩ := h281
        have w286 : dt282 79 2 = dt 79 2 := h281_2.trans w268
        have w287 : dt282 79 9 = dt 79 9 := h281_3.trans w269
        have w288 : dt282 79 10 = dt 79 10 := h281_4.trans w270
        have w289 : dt282 79 11 = dt 79 11 := h281_5.trans w271
        have w290 : dt282 79 12 = dt 79 12 := h281_6.trans w272
        have w291 : dt282 79 17 = dt 79 17 := h281_7.trans w277
        have w292 : dt282 79 20 = 0 := h281_8.trans w279
        have hq293 := h281_0
        rw [show (u2 dt 79 20 0) 85 = dt 85 from funext (hF267 85 (by decide)), show (u2 dt 79 20 0) 79 12 = dt 79 12 by first | with_reducible assumption | exact unhid (by with_reducible assumption) | (first | omega | (have z_ := unhid u2_; omega)), hbb, show (dt 79 12).toNat = n from (congrArg Int.toNat hnn).trans (Int.toNat_natCast n)] at hq293
        have hc294 : CUR 1 b n dt282 (i + 1) := CUR_n hc280 hq293
        have hi295 : i + 1 ≤ t := by (have z_ := unhid u2_; omega)
        have av296 : (u2 dt 79 20 0) 79 15 + 1 ≤ (u2 dt 79 20 0) 79 13 := by (have z_ := unhid u2_; omega)
        have kk_ : KF 1 b n i = 1000 := by (have z_ := unhid u2_; omega)
        have hp297 : (gLF (KF 1 b n) (VF b n) (dt 79 10)) i = (fun i => gB (gA (KF 1 b n) (VF b n) 7 i) (gL1 (KF 1 b n) (VF b n))) (i + 1) := (rfl : (gLF (KF 1 b n) (VF b n) (dt 79 10)) i = (gLF (KF 1 b n) (VF b n) (dt 79 10)) i).trans (by show gLF _ _ _ _ = _; unfold gLF; rw [if_neg (by (have z_ := unhid u2_; omega)), if_neg (by (have z_ := unhid u2_; omega))]; exact gLine_r (by (have z_ := unhid u2_; omega)))
        clear cr0 cb0 cd0 cv0 ck0
        have cr298 := hid (CUR_R hc294 (.inr rfl))
        have cd299 := CUR_d (hc294)
        have cb299 := hid (CUR_b hc294)
        have cv300 := hid (CUR_v hc294)
        have ck301 := hid (KZ_lt (i := (i + 1)) hz)
        have c1302 := (hc294).1
        have ci303 := hi295
        clear h281_2 w268 h281_3 w269 h281_4 w270 h281_5 w271 h281_6 w272 h281_7 w277 h281_8 w279
        have r304 : 0 ≤ dt282 79 10 ∧ dt282 79 10 ≤ 24 := InvC_get hI283 79 10 rfl rfl
        have r305 : 0 ≤ dt282 79 16 ∧ dt282 79 16 ≤ 9999 := InvC_get hI283 79 16 rfl rfl
        refine go_toq PM173 (k := 11) (pc' := 86) (L' := [some (.inr (.inr (some 79))), some (.inl 1)]) (st' := [.inl (dt282 79 16), .inl (4 * (dt282 79 10)), .inr (.inr (some 83))]) (w' := (SH, dt282)) rfl ?_
        have u11_ := hid (And.intro (unhid c6) (And.intro (unhid cr298) (And.intro (unhid cb299) (And.intro (unhid cv300) (unhid ck301)))))
        have hI306 : InvC (u2 dt282 83 ((4 * (dt282 79 10)).toNat) (dt282 79 16)) := InvC_u2 hI283 (lo := -2147483648) (hi := 2147483647) rfl rfl rfl (by first | exact bnd1 r305 (by decide) | (first | omega | (have z_ := unhid u11_; omega))) (by first | exact bnd2 r305 (by decide) | (first | omega | (have z_ := unhid u11_; omega)))
        have hF307 : Fr [79, 83, 84] dt (u2 dt282 83 ((4 * (dt282 79 10)).toNat) (dt282 79 16)) := Fr_u2 hF285 (by decide)
        have w308 : (u2 dt282 83 ((4 * (dt282 79 10)).toNat) (dt282 79 16)) 79 2 = dt 79 2 := w286
        have w309 : (u2 dt282 83 ((4 * (dt282 79 10)).toNat) (dt282 79 16)) 79 9 = dt 79 9 := w287
        have w310 : (u2 dt282 83 ((4 * (dt282 79 10)).toNat) (dt282 79 16)) 79 10 = dt 79 10 := w288
        have w311 : (u2 dt282 83 ((4 * (dt282 79 10)).toNat) (dt282 79 16)) 79 11 = dt 79 11 := w289
        have w312 : (u2 dt282 83 ((4 * (dt282 79 10)).toNat) (dt282 79 16)) 79 12 = dt 79 12 := w290
        have w313 : (u2 dt282 83 ((4 * (dt282 79 10)).toNat) (dt282 79 16)) 79 13 = dt282 79 13 := rfl
        have w314 : (u2 dt282 83 ((4 * (dt282 79 10)).toNat) (dt282 79 16)) 79 14 = dt282 79 14 := rfl
        have w315 : (u2 dt282 83 ((4 * (dt282 79 10)).toNat) (dt282 79 16)) 79 15 = dt282 79 15 := rfl
        have w316 : (u2 dt282 83 ((4 * (dt282 79 10)).toNat) (dt282 79 16)) 79 16 = dt282 79 16 := rfl
        have w317 : (u2 dt282 83 ((4 * (dt282 79 10)).toNat) (dt282 79 16)) 79 17 = dt 79 17 := w291
        have w318 : (u2 dt282 83 ((4 * (dt282 79 10)).toNat) (dt282 79 16)) 79 18 = dt282 79 18 := rfl
        have w319 : (u2 dt282 83 ((4 * (dt282 79 10)).toNat) (dt282 79 16)) 79 20 = 0 := w292
        have hc320 : CUR 1 b n (u2 dt282 83 ((4 * (dt282 79 10)).toNat) (dt282 79 16)) (i + 1) := CUR_sm hc294 rfl rfl rfl rfl
        refine go_smpq PM173 (L' := [some (.inr (.inr (some 79))), some (.inl 1)]) (st' := []) (w' := (SH, (u2 dt282 83 ((4 * (dt282 79 10)).toNat) (dt282 79 16)))) rfl rfl (s_iast (n := 64) rfl ⟨by (first | omega | (have z_ := unhid u11_; omega)), by (first | omega | (have z_ := unhid u11_; omega))⟩ (by first | exact bnd r305 (by decide) (by decide) | exact ⟨by (first | omega | (have z_ := unhid u11_; omega)), by (first | omega | (have z_ := unhid u11_; omega))⟩)) ?_
        refine go_toq PM173 (k := 5) (pc' := 95) (L' := [some (.inr (.inr (some 79))), some (.inl 1)]) (st' := [.inl 7, .inl 0, .inr (.inr (some 79))]) (w' := (SH, (u2 dt282 83 ((4 * (dt282 79 10)).toNat) (dt282 79 16)))) rfl ?_
        refine go_callq PM173 PM162 (Q' := _) rfl rfl rfl rfl (sp_X6_number_g1a L xs sio (d + 29) (u2 dt282 83 ((4 * (dt282 79 10)).toNat) (dt282 79 16)) hI306 b n t (i + 1) (by first | exact hbb | (rw [show (u2 dt282 83 ((4 * (dt282 79 10)).toNat) (dt282 79 16)) 85 = dt 85 from funext (hF307 85 (by decide)), show (u2 dt282 83 ((4 * (dt282 79 10)).toNat) (dt282 79 16)) 79 12 = dt 79 12 by first | with_reducible assumption | exact unhid (by with_reducible assumption) | (first | omega | (have z_ := unhid u11_; omega))]; exact hbb)) (by first | with_reducible assumption | exact unhid (by with_reducible assumption) | exact Eq.trans (by with_reducible assumption) hnn | (first | omega | (have z_ := unhid u11_; omega))) hz ht hc320 hi295 hn5 7 ⟨by decide, by decide⟩ (by first | exact True.intro | with_reducible assumption | exact unhid (by with_reducible assumption) | rfl | (first | omega | (have z_ := unhid u11_; omega)) | trivial)) ?_
        rintro _ _ ⟨dt322, rfl, hI323, hF324, h321⟩
        refine ⟨rfl, ?_⟩
        have hF325 : Fr [79, 83, 84] dt dt322 := Fr_tr hF307 hF324 (by decide)
        rcases h321 with ⟨rfl, h321⟩ | ⟨rfl, h321⟩
        · skip
          obtain ⟨h321_0, h321_1, h321_2, h321_3, h321_4⟩ := h321
          have w326 : dt322 79 2 = dt 79 2 := h321_1.trans w308
          have w327 : dt322 79 9 = dt 79 9 := h321_2.trans w309
          have w328 : dt322 79 10 = dt 79 10 := h321_3.trans w310
          have w329 : dt322 79 12 = dt 79 12 := h321_4.trans w312
          have fl330 := RSX_0 h321_0 rfl
          have fe331 : (gLF (KF 1 b n) (VF b n) (dt 79 10)) i = (gA (KF 1 b n) (VF b n) 7) (i + 1) := hp297.trans ((show (fun i => gB (gA (KF 1 b n) (VF b n) 7 i) (gL1 (KF 1 b n) (VF b n))) (i + 1) = gB ((gA (KF 1 b n) (VF b n) 7) (i + 1)) (gL1 (KF 1 b n) (VF b n)) by rfl).trans (gB_no fl330.1))
          clear h321_1 w308 h321_2 w309 h321_3 w310 h321_4 w312
          refine go_retq PM173 (k := 2) (r := some (.inl 0)) (w1 := (SH, dt322)) rfl ?_
          exact ⟨dt322, rfl, hI323, hF325, (Or.inl ⟨rfl, ⟨by exact RSX_f fe331 fl330 (by first | rfl | with_reducible assumption | exact unhid (by with_reducible assumption) | (first | omega | (have z_ := unhid u11_; omega))) (by first | rfl | with_reducible assumption | exact unhid (by with_reducible assumption) | (first | omega | (have z_ := unhid u11_; omega))), by first | exact True.intro | with_reducible assumption | exact unhid (by with_reducible assumption) | rfl | (first | omega | (have z_ := unhid u11_; omega)) | trivial, by first | exact True.intro | with_reducible assumption | exact unhid (by with_reducible assumption) | rfl | (first | omega | (have z_ := unhid u11_; omega)) | trivial, by first | exact True.intro | with_reducible assumption | exact unhid (by with_reducible assumption) | rfl | (first | omega | (have z_ := unhid u11_; omega)) | trivial, by first | exact True.intro | with_reducible assumption | exact unhid (by with_reducible assumption) | rfl | (first | omega | (have z_ := unhid u11_; omega)) | trivial⟩⟩)⟩
        · skip
          obtain ⟨h321_0, h321_1, h321_2, h321_3, h321_4, h321_5, h321_6, h321_7, h321_8, h321_9, h321_10⟩ := h321
          have w332 : dt322 79 2 = dt 79 2 := h321_4.trans w308
          have w333 : dt322 79 9 = dt 79 9 := h321_5.trans w309
          have w334 : dt322 79 10 = dt 79 10 := h321_6.trans w310
          have w335 : dt322 79 11 = dt 79 11 := h321_7.trans w311
          have w336 : dt322 79 12 = dt 79 12 := h321_8.trans w312
          have w337 : dt322 79 17 = dt 79 17 := h321_9.trans w317
          have w338 : dt322 79 20 = 0 := h321_10.trans w319
          obtain ⟨j339, ej340, hc341⟩ := RSX_1 h321_0 (by decide)
          have hp342 : (gLF (KF 1 b n) (VF b n) (dt 79 10)) i = (gL1 (KF 1 b n) (VF b n)) j339 := hp297.trans ((show (fun i => gB (gA (KF 1 b n) (VF b n) 7 i) (gL1 (KF 1 b n) (VF b n))) (i + 1) = gB ((gA (KF 1 b n) (VF b n) 7) (i + 1)) (gL1 (KF 1 b n) (VF b n)) by rfl).trans (by rw [ej340]; exact gB_0))
          have hi343 : j339 ≤ t := by have z := gA_M (K := (KF 1 b n)) (V := (VF b n)) (m := 7) (i := (i + 1)) hz; rw [ej340] at z; have y := z rfl; simp only at y; (first | omega | (have z_ := unhid u11_; omega))
          clear cr298 cb299 cd299 cv300 ck301
          have cr344 := hid (CUR_R hc341 (.inr rfl))
          have cd345 := CUR_d (hc341)
          have cb345 := hid (CUR_b hc341)
          have cv346 := hid (CUR_v hc341)
          have ck347 := hid (KZ_lt (i := j339) hz)
          have c1348 := (hc341).1
          have ci349 := hi343
          clear h321_4 w308 h321_5 w309 h321_6 w310 h321_7 w311 h321_8 w312 h321_9 w317 h321_10 w319
          have r350 : 0 ≤ dt322 79 10 ∧ dt322 79 10 ≤ 24 := InvC_get hI323 79 10 rfl rfl
          have r351 : 0 ≤ dt322 79 11 ∧ dt322 79 11 ≤ 510 := InvC_get hI323 79 11 rfl rfl
          refine go_toq PM173 (k := 11) (pc' := 119) (L' := [some (.inr (.inr (some 79))), some (.inl 1)]) (st' := [.inl (dt322 79 11), .inl ((4 * (dt322 79 10)) + 1), .inr (.inr (some 83))]) (w' := (SH, dt322)) rfl ?_
          have u12_ := hid (And.intro (unhid c6) (And.intro (unhid cr344) (And.intro (unhid cb345) (And.intro (unhid cv346) (unhid ck347)))))
          have hI352 : InvC (u2 dt322 83 (((4 * (dt322 79 10)) + 1).toNat) (dt322 79 11)) := InvC_u2 hI323 (lo := -2147483648) (hi := 2147483647) rfl rfl rfl (by first | exact bnd1 r351 (by decide) | (first | omega | (have z_ := unhid u12_; omega))) (by first | exact bnd2 r351 (by decide) | (first | omega | (have z_ := unhid u12_; omega)))
          have hF353 : Fr [79, 83, 84] dt (u2 dt322 83 (((4 * (dt322 79 10)) + 1).toNat) (dt322 79 11)) := Fr_u2 hF325 (by decide)
          have w354 : (u2 dt322 83 (((4 * (dt322 79 10)) + 1).toNat) (dt322 79 11)) 79 2 = dt 79 2 := w332
          have w355 : (u2 dt322 83 (((4 * (dt322 79 10)) + 1).toNat) (dt322 79 11)) 79 9 = dt 79 9 := w333
          have w356 : (u2 dt322 83 (((4 * (dt322 79 10)) + 1).toNat) (dt322 79 11)) 79 10 = dt 79 10 := w334
          have w357 : (u2 dt322 83 (((4 * (dt322 79 10)) + 1).toNat) (dt322 79 11)) 79 11 = dt 79 11 := w335
          have w358 : (u2 dt322 83 (((4 * (dt322 79 10)) + 1).toNat) (dt322 79 11)) 79 12 = dt 79 12 := w336
          have w359 : (u2 dt322 83 (((4 * (dt322 79 10)) + 1).toNat) (dt322 79 11)) 79 13 = dt322 79 13 := rfl
          have w360 : (u2 dt322 83 (((4 * (dt322 79 10)) + 1).toNat) (dt322 79 11)) 79 14 = dt322 79 14 := rfl
          have w361 : (u2 dt322 83 (((4 * (dt322 79 10)) + 1).toNat) (dt322 79 11)) 79 15 = dt322 79 15 := rfl
          have w362 : (u2 dt322 83 (((4 * (dt322 79 10)) + 1).toNat) (dt322 79 11)) 79 16 = dt322 79 16 := rfl
          have w363 : (u2 dt322 83 (((4 * (dt322 79 10)) + 1).toNat) (dt322 79 11)) 79 17 = dt 79 17 := w337
          have w364 : (u2 dt322 83 (((4 * (dt322 79 10)) + 1).toNat) (dt322 79 11)) 79 18 = dt322 79 18 := rfl
          have w365 : (u2 dt322 83 (((4 * (dt322 79 10)) + 1).toNat) (dt322 79 11)) 79 20 = 0 := w338
          have hc366 : CUR 1 b n (u2 dt322 83 (((4 * (dt322 79 10)) + 1).toNat) (dt322 79 11)) j339 := CUR_sm hc341 rfl rfl rfl rfl
          refine go_smpq PM173 (L' := [some (.inr (.inr (some 79))), some (.inl 1)]) (st' := []) (w' := (SH, (u2 dt322 83 (((4 * (dt322 79 10)) + 1).toNat) (dt322 79 11)))) rfl rfl (s_iast (n := 64) rfl ⟨by (first | omega | (have z_ := unhid u12_; omega)), by (first | omega | (have z_ := unhid u12_; omega))⟩ (by first | exact bnd r351 (by decide) (by decide) | exact ⟨by (first | omega | (have z_ := unhid u12_; omega)), by (first | omega | (have z_ := unhid u12_; omega))⟩)) ?_
          refine go_toq PM173 (k := 1) (pc' := 121) (L' := [some (.inr (.inr (some 79))), some (.inl 1)]) (st' := [.inr (.inr (some 79))]) (w' := (SH, (u2 dt322 83 (((4 * (dt322 79 10)) + 1).toNat) (dt322 79 11)))) rfl ?_
          refine go_callq PM173 PM165 (Q' := _) rfl rfl rfl rfl (sp_X6_sumUp_g L xs sio (d + 27) (u2 dt322 83 (((4 * (dt322 79 10)) + 1).toNat) (dt322 79 11)) hI352 b n t j339 (by first | exact hbb | (rw [show (u2 dt322 83 (((4 * (dt322 79 10)) + 1).toNat) (dt322 79 11)) 85 = dt 85 from funext (hF353 85 (by decide)), show (u2 dt322 83 (((4 * (dt322 79 10)) + 1).toNat) (dt322 79 11)) 79 12 = dt 79 12 by first | with_reducible assumption | exact unhid (by with_reducible assumption) | (first | omega | (have z_ := unhid u12_; omega))]; exact hbb)) (by first | with_reducible assumption | exact unhid (by with_reducible assumption) | exact Eq.trans (by with_reducible assumption) hnn | (first | omega | (have z_ := unhid u12_; omega))) hz ht hc366 hi343 hn5  (by first | exact True.intro | with_reducible assumption | exact unhid (by with_reducible assumption) | rfl | (first | omega | (have z_ := unhid u12_; omega)) | trivial) (by first | exact True.intro | with_reducible assumption | exact unhid (by with_reducible assumption) | rfl | (first | omega | (have z_ := unhid u12_; omega)) | trivial)) ?_
          rintro _ _ ⟨dt368, rfl, hI369, hF370, h367⟩
          refine ⟨rfl, ?_⟩
          have hF371 : Fr [79, 83, 84] dt dt368 := Fr_tr hF353 hF370 (by decide)
          rcases h367 with ⟨rfl, h367⟩ | ⟨rfl, h367⟩
          · skip
            obtain ⟨h367_0, h367_1, h367_2, h367_3, h367_4⟩ := h367
            have w372 : dt368 79 2 = dt 79 2 := h367_1.trans w354
            have w373 : dt368 79 9 = dt 79 9 := h367_2.trans w355
            have w374 : dt368 79 10 = dt 79 10 := h367_3.trans w356
            have w375 : dt368 79 12 = dt 79 12 := h367_4.trans w358
            have fl376 := RSX_0 h367_0 rfl
            have fe377 : (gLF (KF 1 b n) (VF b n) (dt 79 10)) i = (gE (KF 1 b n) (VF b n)) j339 := hp342.trans ((show (gL1 (KF 1 b n) (VF b n)) j339 = gB ((gE (KF 1 b n) (VF b n)) j339) (gL2 (KF 1 b n) (VF b n)) by rfl).trans (gB_no fl376.1))
            clear h367_1 w354 h367_2 w355 h367_3 w356 h367_4 w358
            refine go_retq PM173 (k := 2) (r := some (.inl 0)) (w1 := (SH, dt368)) rfl ?_
            exact ⟨dt368, rfl, hI369, hF371, (Or.inl ⟨rfl, ⟨by exact RSX_f fe377 fl376 (by first | rfl | with_reducible assumption | exact unhid (by with_reducible assumption) | (first | omega | (have z_ := unhid u12_; omega))) (by first | rfl | with_reducible assumption | exact unhid (by with_reducible assumption) | (first | omega | (have z_ := unhid u12_; omega))), by first | exact True.intro | with_reducible assumption | exact unhid (by with_reducible assumption) | rfl | (first | omega | (have z_ := unhid u12_; omega)) | trivial, by first | exact True.intro | with_reducible assumption | exact unhid (by with_reducible assumption) | rfl | (first | omega | (have z_ := unhid u12_; omega)) | trivial, by first | exact True.intro | with_reducible assumption | exact unhid (by with_reducible assumption) | rfl | (first | omega | (have z_ := unhid u12_; omega)) | trivial, by first | exact True.intro | with_reducible assumption | exact unhid (by with_reducible assumption) | rfl | (first | omega | (have z_ := unhid u12_; omega)) | trivial⟩⟩)⟩
          · skip
            obtain ⟨h367_0, h367_1, h367_2, h367_3, h367_4, h367_5, h367_6, h367_7, h367_8, h367_9⟩ := h367
            have w378 : dt368 79 2 = dt 79 2 := h367_4.trans w354
            have w379 : dt368 79 9 = dt 79 9 := h367_5.trans w355
            have w380 : dt368 79 10 = dt 79 10 := h367_6.trans w356
            have w381 : dt368 79 12 = dt 79 12 := h367_7.trans w358
            have w382 : dt368 79 17 = dt 79 17 := h367_8.trans w363
            have w383 : dt368 79 20 = 0 := h367_9.trans w365
            obtain ⟨j384, ej385, hc386⟩ := RSX_1 h367_0 (by decide)
            have hp387 : (gLF (KF 1 b n) (VF b n) (dt 79 10)) i = (gL2 (KF 1 b n) (VF b n)) j384 := hp342.trans ((show (gL1 (KF 1 b n) (VF b n)) j339 = gB ((gE (KF 1 b n) (VF b n)) j339) (gL2 (KF 1 b n) (VF b n)) by rfl).trans (by rw [ej385]; exact gB_0))
            have hi388 : j384 ≤ t := by have z := gE_M (K := (KF 1 b n)) (V := (VF b n)) (i := j339) hz; rw [ej385] at z; have y := z rfl; simp only at y; (first | omega | (have z_ := unhid u12_; omega))
            clear cr344 cb345 cd345 cv346 ck347
            have cr389 := hid (CUR_R hc386 (.inr rfl))
            have cd390 := CUR_d (hc386)
            have cb390 := hid (CUR_b hc386)
            have cv391 := hid (CUR_v hc386)
            have ck392 := hid (KZ_lt (i := j384) hz)
            have c1393 := (hc386).1
            have ci394 := hi388
            clear h367_4 w354 h367_5 w355 h367_6 w356 h367_7 w358 h367_8 w363 h367_9 w365
            have r395 : 0 ≤ dt368 79 10 ∧ dt368 79 10 ≤ 24 := InvC_get hI369 79 10 rfl rfl
            have r396 : 0 ≤ dt368 79 11 ∧ dt368 79 11 ≤ 510 := InvC_get hI369 79 11 rfl rfl
            refine go_toq PM173 (k := 11) (pc' := 145) (L' := [some (.inr (.inr (some 79))), some (.inl 1)]) (st' := [.inl (dt368 79 11), .inl ((4 * (dt368 79 10)) + 2), .inr (.inr (some 83))]) (w' := (SH, dt368)) rfl ?_
            have u13_ := hid (And.intro (unhid c6) (And.intro (unhid cr389) (And.intro (unhid cb390) (And.intro (unhid cv391) (unhid ck392)))))
            have hI397 : InvC (u2 dt368 83 (((4 * (dt368 79 10)) + 2).toNat) (dt368 79 11)) := InvC_u2 hI369 (lo := -2147483648) (hi := 2147483647) rfl rfl rfl (by first | exact bnd1 r396 (by decide) | (first | omega | (have z_ := unhid u13_; omega))) (by first | exact bnd2 r396 (by decide) | (first | omega | (have z_ := unhid u13_; omega)))
            have hF398 : Fr [79, 83, 84] dt (u2 dt368 83 (((4 * (dt368 79 10)) + 2).toNat) (dt368 79 11)) := Fr_u2 hF371 (by decide)
            have w399 : (u2 dt368 83 (((4 * (dt368 79 10)) + 2).toNat) (dt368 79 11)) 79 2 = dt 79 2 := w378
            have w400 : (u2 dt368 83 (((4 * (dt368 79 10)) + 2).toNat) (dt368 79 11)) 79 9 = dt 79 9 := w379
            have w401 : (u2 dt368 83 (((4 * (dt368 79 10)) + 2).toNat) (dt368 79 11)) 79 10 = dt 79 10 := w380
            have w402 : (u2 dt368 83 (((4 * (dt368 79 10)) + 2).toNat) (dt368 79 11)) 79 11 = dt368 79 11 := rfl
            have w403 : (u2 dt368 83 (((4 * (dt368 79 10)) + 2).toNat) (dt368 79 11)) 79 12 = dt 79 12 := w381
            have w404 : (u2 dt368 83 (((4 * (dt368 79 10)) + 2).toNat) (dt368 79 11)) 79 13 = dt368 79 13 := rfl
            have w405 : (u2 dt368 83 (((4 * (dt368 79 10)) + 2).toNat) (dt368 79 11)) 79 14 = dt368 79 14 := rfl
            have w406 : (u2 dt368 83 (((4 * (dt368 79 10)) + 2).toNat) (dt368 79 11)) 79 15 = dt368 79 15 := rfl
            have w407 : (u2 dt368 83 (((4 * (dt368 79 10)) + 2).toNat) (dt368 79 11)) 79 16 = dt368 79 16 := rfl
            have w408 : (u2 dt368 83 (((4 * (dt368 79 10)) + 2).toNat) (dt368 79 11)) 79 17 = dt 79 17 := w382
            have w409 : (u2 dt368 83 (((4 * (dt368 79 10)) + 2).toNat) (dt368 79 11)) 79 18 = dt368 79 18 := rfl
            have w410 : (u2 dt368 83 (((4 * (dt368 79 10)) + 2).toNat) (dt368 79 11)) 79 20 = 0 := w383
            have hc411 : CUR 1 b n (u2 dt368 83 (((4 * (dt368 79 10)) + 2).toNat) (dt368 79 11)) j384 := CUR_sm hc386 rfl rfl rfl rfl
            refine go_smpq PM173 (L' := [some (.inr (.inr (some 79))), some (.inl 1)]) (st' := []) (w' := (SH, (u2 dt368 83 (((4 * (dt368 79 10)) + 2).toNat) (dt368 79 11)))) rfl rfl (s_iast (n := 64) rfl ⟨by (first | omega | (have z_ := unhid u13_; omega)), by (first | omega | (have z_ := unhid u13_; omega))⟩ (by first | exact bnd r396 (by decide) (by decide) | exact ⟨by (first | omega | (have z_ := unhid u13_; omega)), by (first | omega | (have z_ := unhid u13_; omega))⟩)) ?_
            have r412 : (-2147483648) ≤ dt368 79 14 ∧ dt368 79 14 ≤ 2147483647 := InvC_get hI369 79 14 rfl rfl
            refine go_ifq PM173 (k := 3) (p1 := 167) (p2 := 154) (L' := [some (.inr (.inr (some 79))), some (.inl 1)]) (st' := []) (w' := (SH, (u2 dt368 83 (((4 * (dt368 79 10)) + 2).toNat) (dt368 79 11)))) rfl (c_ne (a := dt368 79 14) (b := 3) (by first | exact bnd r412 (by decide) (by decide) | exact ⟨by (first | omega | (have z_ := unhid u13_; omega)), by (first | omega | (have z_ := unhid u13_; omega))⟩) ⟨by decide, by decide⟩) (fun c413 => ?_) (fun c413 => ?_)
            · skip
              replace c413 := hid c413
              refine go_toq PM173 (k := 10) (pc' := 183) (L' := [some (.inr (.inr (some 79))), some (.inl 1)]) (st' := [.inl (dt368 79 11), .inl ((4 * (dt368 79 10)) + 3), .inr (.inr (some 83))]) (w' := (SH, (u2 dt368 83 (((4 * (dt368 79 10)) + 2).toNat) (dt368 79 11)))) rfl ?_
              have u14_ := hid (And.intro (unhid c6) (And.intro (unhid cr389) (And.intro (unhid cb390) (And.intro (unhid cv391) (And.intro (unhid ck392) (unhid c413))))))
              have hI414 : InvC (u2 (u2 dt368 83 (((4 * (dt368 79 10)) + 2).toNat) (dt368 79 11)) 83 (((4 * (dt368 79 10)) + 3).toNat) (dt368 79 11)) := InvC_u2 hI397 (lo := -2147483648) (hi := 2147483647) rfl rfl rfl (by first | exact bnd1 r396 (by decide) | (first | omega | (have z_ := unhid u14_; omega))) (by first | exact bnd2 r396 (by decide) | (first | omega | (have z_ := unhid u14_; omega)))
              have hF415 : Fr [79, 83, 84] dt (u2 (u2 dt368 83 (((4 * (dt368 79 10)) + 2).toNat) (dt368 79 11)) 83 (((4 * (dt368 79 10)) + 3).toNat) (dt368 79 11)) := Fr_u2 hF398 (by decide)
              have w416 : (u2 (u2 dt368 83 (((4 * (dt368 79 10)) + 2).toNat) (dt368 79 11)) 83 (((4 * (dt368 79 10)) + 3).toNat) (dt368 79 11)) 79 2 = dt 79 2 := w399
              have w417 : (u2 (u2 dt368 83 (((4 * (dt368 79 10)) + 2).toNat) (dt368 79 11)) 83 (((4 * (dt368 79 10)) + 3).toNat) (dt368 79 11)) 79 9 = dt 79 9 := w400
              have w418 : (u2 (u2 dt368 83 (((4 * (dt368 79 10)) + 2).toNat) (dt368 79 11)) 83 (((4 * (dt368 79 10)) + 3).toNat) (dt368 79 11)) 79 10 = dt 79 10 := w401
              have w419 : (u2 (u2 dt368 83 (((4 * (dt368 79 10)) + 2).toNat) (dt368 79 11)) 83 (((4 * (dt368 79 10)) + 3).toNat) (dt368 79 11)) 79 11 = dt368 79 11 := w402
              have w420 : (u2 (u2 dt368 83 (((4 * (dt368 79 10)) + 2).toNat) (dt368 79 11)) 83 (((4 * (dt368 79 10)) + 3).toNat) (dt368 79 11)) 79 12 = dt 79 12 := w403
              have w421 : (u2 (u2 dt368 83 (((4 * (dt368 79 10)) + 2).toNat) (dt368 79 11)) 83 (((4 * (dt368 79 10)) + 3).toNat) (dt368 79 11)) 79 13 = dt368 79 13 := w404
              have w422 : (u2 (u2 dt368 83 (((4 * (dt368 79 10)) + 2).toNat) (dt368 79 11)) 83 (((4 * (dt368 79 10)) + 3).toNat) (dt368 79 11)) 79 14 = dt368 79 14 := w405
              have w423 : (u2 (u2 dt368 83 (((4 * (dt368 79 10)) + 2).toNat) (dt368 79 11)) 83 (((4 * (dt368 79 10)) + 3).toNat) (dt368 79 11)) 79 15 = dt368 79 15 := w406
              have w424 : (u2 (u2 dt368 83 (((4 * (dt368 79 10)) + 2).toNat) (dt368 79 11)) 83 (((4 * (dt368 79 10)) + 3).toNat) (dt368 79 11)) 79 16 = dt368 79 16 := w407
              have w425 : (u2 (u2 dt368 83 (((4 * (dt368 79 10)) + 2).toNat) (dt368 79 11)) 83 (((4 * (dt368 79 10)) + 3).toNat) (dt368 79 11)) 79 17 = dt 79 17 := w408
              have w426 : (u2 (u2 dt368 83 (((4 * (dt368 79 10)) + 2).toNat) (dt368 79 11)) 83 (((4 * (dt368 79 10)) + 3).toNat) (dt368 79 11)) 79 18 = dt368 79 18 := w409
              have w427 : (u2 (u2 dt368 83 (((4 * (dt368 79 10)) + 2).toNat) (dt368 79 11)) 83 (((4 * (dt368 79 10)) + 3).toNat) (dt368 79 11)) 79 20 = 0 := w410
              clear w399 w400 w401 w402 w403 w404 w405 w406 w407 w408 w409 w410
              have hc428 : CUR 1 b n (u2 (u2 dt368 83 (((4 * (dt368 79 10)) + 2).toNat) (dt368 79 11)) 83 (((4 * (dt368 79 10)) + 3).toNat) (dt368 79 11)) j384 := CUR_sm hc411 rfl rfl rfl rfl
              refine go_smpq PM173 (L' := [some (.inr (.inr (some 79))), some (.inl 1)]) (st' := []) (w' := (SH, (u2 (u2 dt368 83 (((4 * (dt368 79 10)) + 2).toNat) (dt368 79 11)) 83 (((4 * (dt368 79 10)) + 3).toNat) (dt368 79 11)))) rfl rfl (s_iast (n := 64) rfl ⟨by (first | omega | (have z_ := unhid u14_; omega)), by (first | omega | (have z_ := unhid u14_; omega))⟩ (by first | exact bnd r396 (by decide) (by decide) | exact ⟨by (first | omega | (have z_ := unhid u14_; omega)), by (first | omega | (have z_ := unhid u14_; omega))⟩)) ?_
              refine go_toq PM173 (k := 2) (pc' := 188) (L' := [some (.inr (.inr (some 79))), some (.inl 1)]) (st' := [.inl 159, .inr (.inr (some 79))]) (w' := (SH, (u2 (u2 dt368 83 (((4 * (dt368 79 10)) + 2).toNat) (dt368 79 11)) 83 (((4 * (dt368 79 10)) + 3).toNat) (dt368 79 11)))) rfl ?_
              refine go_callq PM173 PM161 (Q' := _) rfl rfl rfl rfl (sp_X6_need0_g1 L xs sio (d + 29) (u2 (u2 dt368 83 (((4 * (dt368 79 10)) + 2).toNat) (dt368 79 11)) 83 (((4 * (dt368 79 10)) + 3).toNat) (dt368 79 11)) hI414 b n t j384 (by first | exact hbb | (rw [show (u2 (u2 dt368 83 (((4 * (dt368 79 10)) + 2).toNat) (dt368 79 11)) 83 (((4 * (dt368 79 10)) + 3).toNat) (dt368 79 11)) 85 = dt 85 from funext (hF415 85 (by decide)), show (u2 (u2 dt368 83 (((4 * (dt368 79 10)) + 2).toNat) (dt368 79 11)) 83 (((4 * (dt368 79 10)) + 3).toNat) (dt368 79 11)) 79 12 = dt 79 12 by first | with_reducible assumption | exact unhid (by with_reducible assumption) | (first | omega | (have z_ := unhid u14_; omega))]; exact hbb)) (by first | with_reducible assumption | exact unhid (by with_reducible assumption) | exact Eq.trans (by with_reducible assumption) hnn | (first | omega | (have z_ := unhid u14_; omega))) hz ht hc428 hi388 hn5 159 ⟨by decide, by decide⟩ (by first | exact True.intro | with_reducible assumption | exact unhid (by with_reducible assumption) | rfl | (first | omega | (have z_ := unhid u14_; omega)) | trivial)) ?_
              rintro _ _ ⟨dt430, rfl, hI431, hF432, h429⟩
              refine ⟨rfl, ?_⟩
              have hF433 : Fr [79, 83, 84] dt dt430 := Fr_tr hF415 hF432 (by decide)
              rcases h429 with ⟨rfl, h429⟩ | ⟨rfl, h429⟩
              · skip
                obtain ⟨h429_0, h429_1, h429_2, h429_3, h429_4⟩ := h429
                have w434 : dt430 79 2 = dt 79 2 := h429_1.trans w416
                have w435 : dt430 79 9 = dt 79 9 := h429_2.trans w417
                have w436 : dt430 79 10 = dt 79 10 := h429_3.trans w418
                have w437 : dt430 79 12 = dt 79 12 := h429_4.trans w420
                have fl438 := RSX_0 h429_0 rfl
                have fe439 : (gLF (KF 1 b n) (VF b n) (dt 79 10)) i = (gK (KF 1 b n) (159 - 100)) j384 := hp387.trans ((show (gL2 (KF 1 b n) (VF b n)) j384 = gB ((gK (KF 1 b n) (159 - 100)) j384) gOk by first | exact gB_id.symm | exact gL2_n (by (first | omega | (have z_ := unhid u14_; omega)))).trans (gB_no fl438.1))
                clear h429_1 w416 h429_2 w417 h429_3 w418 h429_4 w420
                refine go_retq PM173 (k := 0) (r := some (.inl 0)) (w1 := (SH, dt430)) rfl ?_
                exact ⟨dt430, rfl, hI431, hF433, (Or.inl ⟨rfl, ⟨by exact RSX_f fe439 fl438 (by first | rfl | with_reducible assumption | exact unhid (by with_reducible assumption) | (first | omega | (have z_ := unhid u14_; omega))) (by first | rfl | with_reducible assumption | exact unhid (by with_reducible assumption) | (first | omega | (have z_ := unhid u14_; omega))), by first | exact True.intro | with_reducible assumption | exact unhid (by with_reducible assumption) | rfl | (first | omega | (have z_ := unhid u14_; omega)) | trivial, by first | exact True.intro | with_reducible assumption | exact unhid (by with_reducible assumption) | rfl | (first | omega | (have z_ := unhid u14_; omega)) | trivial, by first | exact True.intro | with_reducible assumption | exact unhid (by with_reducible assumption) | rfl | (first | omega | (have z_ := unhid u14_; omega)) | trivial, by first | exact True.intro | with_reducible assumption | exact unhid (by with_reducible assumption) | rfl | (first | omega | (have z_ := unhid u14_; omega)) | trivial⟩⟩)⟩
              · skip
                obtain ⟨h429_0, h429_1, h429_2, h429_3, h429_4, h429_5, h429_6, h429_7, h429_8, h429_9⟩ := h429
                have w440 : dt430 79 2 = dt 79 2 := h429_3.trans w416
                have w441 : dt430 79 9 = dt 79 9 := h429_4.trans w417
                have w442 : dt430 79 10 = dt 79 10 := h429_5.trans w418
                have w443 : dt430 79 11 = dt368 79 11 := h429_6.trans w419
                have w444 : dt430 79 12 = dt 79 12 := h429_7.trans w420
                have w445 : dt430 79 17 = dt 79 17 := h429_8.trans w425
                have w446 : dt430 79 20 = 0 := h429_9.trans w427
                obtain ⟨j447, ej448, hc449⟩ := RSX_1 h429_0 (by decide)
                have hp450 : (gLF (KF 1 b n) (VF b n) (dt 79 10)) i = gOk j447 := hp387.trans ((show (gL2 (KF 1 b n) (VF b n)) j384 = gB ((gK (KF 1 b n) (159 - 100)) j384) gOk by first | exact gB_id.symm | exact gL2_n (by (have z_ := unhid u14_; omega))).trans (by rw [ej448]; exact gB_0))
                have hi451 : j447 ≤ t := by have z := (fun (h : KZ (KF 1 b n) t) => gK_M (K := (KF 1 b n)) (k := 159 - 100) (i := j384) h (by decide)) hz; rw [ej448] at z; have y := z rfl; simp only at y; (first | omega | (have z_ := unhid u14_; omega))
                clear cr389 cb390 cd390 cv391 ck392
                have cr452 := hid (CUR_R hc449 (.inr rfl))
                have cd453 := CUR_d (hc449)
                have cb453 := hid (CUR_b hc449)
                have cv454 := hid (CUR_v hc449)
                have ck455 := hid (KZ_lt (i := j447) hz)
                have c1456 := (hc449).1
                have ci457 := hi451
                clear h429_3 w416 h429_4 w417 h429_5 w418 h429_6 w419 h429_7 w420 h429_8 w425 h429_9 w427
                refine go_retq PM173 (k := 0) (r := some (.inl 1)) (w1 := (SH, dt430)) rfl ?_
                have u15_ := hid (And.intro (unhid c6) (And.intro (unhid c413) (And.intro (unhid cr452) (And.intro (unhid cb453) (And.intro (unhid cv454) (unhid ck455))))))
                exact ⟨dt430, rfl, hI431, hF433, (Or.inr ⟨rfl, ⟨by exact RSX_ok (hp450.trans (by rfl)) hc449, by first | exact True.intro | with_reducible assumption | exact unhid (by with_reducible assumption) | rfl | (first | omega | (have z_ := unhid u15_; omega)) | trivial, by first | exact True.intro | with_reducible assumption | exact unhid (by with_reducible assumption) | rfl | (first | omega | (have z_ := unhid u15_; omega)) | trivial, by first | exact True.intro | with_reducible assumption | exact unhid (by with_reducible assumption) | rfl | (first | omega | (have z_ := unhid u15_; omega)) | trivial, by first | exact True.intro | with_reducible assumption | exact unhid (by with_reducible assumption) | rfl | (first | omega | (have z_ := unhid u15_; omega)) | trivial, by exact (InvC_get (by assumption) 79 15 rfl rfl).2, by first | exact True.intro | with_reducible assumption | exact unhid (by with_reducible assumption) | rfl | (first | omega | (have z_ := unhid u15_; omega)) | trivial, by first | exact True.intro | with_reducible assumption | exact unhid (by with_reducible assumption) | rfl | (first | omega | (have z_ := unhid u15_; omega)) | trivial, by first | exact True.intro | with_reducible assumption | exact unhid (by with_reducible assumption) | rfl | (first | omega | (have z_ := unhid u15_; omega)) | trivial, by first | exact True.intro | with_reducible assumption | exact unhid (by with_reducible assumption) | rfl | (first | omega | (have z_ := unhid u15_; omega)) | trivial, by first | exact True.intro | with_reducible assumption | exact unhid (by with_reducible assumption) | rfl | (first | omega | (have z_ := unhid u15_; omega)) | trivial⟩⟩)⟩
            · skip
              refine go_toq PM173 (k := 1) (pc' := 155) (L' := [some (.inr (.inr (some 79))), some (.inl 1)]) (st' := [.inr (.inr (some 79))]) (w' := (SH, (u2 dt368 83 (((4 * (dt368 79 10)) + 2).toNat) (dt368 79 11)))) rfl ?_
              refine go_callq PM173 PM159 (Q' := _) rfl rfl rfl rfl (sp_X6_next0_p1 L xs sio (d + 30) (u2 dt368 83 (((4 * (dt368 79 10)) + 2).toNat) (dt368 79 11)) hI397   (by first | exact True.intro | with_reducible assumption | exact unhid (by with_reducible assumption) | rfl | (first | omega | (have z_ := unhid u13_; omega)) | trivial) (by first | exact True.intro | with_reducible assumption | exact unhid (by with_reducible assumption) | rfl | (first | omega | (have z_ := unhid u13_; omega)) | trivial)) ?_
              rintro _ _ ⟨dt459, rfl, hI460, hF461, h458⟩
              refine ⟨rfl, ?_⟩
              have hF462 : Fr [79, 83, 84] dt dt459 := Fr_tr hF398 hF461 (by decide)
              rcases h458 with ⟨rfl, h458⟩
              obtain ⟨h458_0, h458_1, h458_2, h458_3, h458_4, h458_5, h458_6, h458_7, h458_8⟩ := h458
              have w463 : dt459 79 2 = dt 79 2 := h458_2.trans w399
              have w464 : dt459 79 9 = dt 79 9 := h458_3.trans w400
              have w465 : dt459 79 10 = dt 79 10 := h458_4.trans w401
              have w466 : dt459 79 11 = dt368 79 11 := h458_5.trans w402
              have w467 : dt459 79 12 = dt 79 12 := h458_6.trans w403
              have w468 : dt459 79 17 = dt 79 17 := h458_7.trans w408
              have w469 : dt459 79 20 = 0 := h458_8.trans w410
              have hq470 := h458_0
              rw [show (u2 dt368 83 (((4 * (dt368 79 10)) + 2).toNat) (dt368 79 11)) 85 = dt 85 from funext (hF398 85 (by decide)), show (u2 dt368 83 (((4 * (dt368 79 10)) + 2).toNat) (dt368 79 11)) 79 12 = dt 79 12 by first | with_reducible assumption | exact unhid (by with_reducible assumption) | (first | omega | (have z_ := unhid u13_; omega)), hbb, show (dt 79 12).toNat = n from (congrArg Int.toNat hnn).trans (Int.toNat_natCast n)] at hq470
              have hc471 : CUR 1 b n dt459 (j384 + 1) := CUR_n hc411 hq470
              have hi472 : j384 + 1 ≤ t := by (have z_ := unhid u13_; omega)
              have av473 : (u2 dt368 83 (((4 * (dt368 79 10)) + 2).toNat) (dt368 79 11)) 79 15 + 1 ≤ (u2 dt368 83 (((4 * (dt368 79 10)) + 2).toNat) (dt368 79 11)) 79 13 := by (have z_ := unhid u13_; omega)
              have hp474 : (gLF (KF 1 b n) (VF b n) (dt 79 10)) i = (fun i => gB (gB_ (KF 1 b n) (VF b n) 8 i) (gK (KF 1 b n) 59)) (j384 + 1) := hp387.trans (by exact gL2_w (by (have z_ := unhid u13_; omega)))
              clear cr389 cb390 cd390 cv391 ck392
              have cr475 := hid (CUR_R hc471 (.inr rfl))
              have cd476 := CUR_d (hc471)
              have cb476 := hid (CUR_b hc471)
              have cv477 := hid (CUR_v hc471)
              have ck478 := hid (KZ_lt (i := (j384 + 1)) hz)
              have c1479 := (hc471).1
              have ci480 := hi472
              clear h458_2 w399 h458_3 w400 h458_4 w401 h458_5 w402 h458_6 w403 h458_7 w408 h458_8 w410
              refine go_toq PM173 (k := 1) (pc' := 159) (L' := [some (.inr (.inr (some 79))), some (.inl 1)]) (st' := [.inr (.inr (some 79))]) (w' := (SH, dt459)) rfl ?_
              have u16_ := hid (And.intro (unhid c6) (And.intro (unhid cr475) (And.intro (unhid cb476) (And.intro (unhid cv477) (unhid ck478)))))
              refine go_callq PM173 PM168 (Q' := _) rfl rfl rfl rfl (sp_X6_any_g0 L xs sio (d + 0) dt459 hI460 b n t (j384 + 1) (by first | exact hbb | (rw [show dt459 85 = dt 85 from funext (hF462 85 (by decide)), show dt459 79 12 = dt 79 12 by first | with_reducible assumption | exact unhid (by with_reducible assumption) | (first | omega | (have z_ := unhid u16_; omega))]; exact hbb)) (by first | with_reducible assumption | exact unhid (by with_reducible assumption) | exact Eq.trans (by with_reducible assumption) hnn | (first | omega | (have z_ := unhid u16_; omega))) hz ht hc471 hi472 hn5  (by first | exact True.intro | with_reducible assumption | exact unhid (by with_reducible assumption) | rfl | (first | omega | (have z_ := unhid u16_; omega)) | trivial) (by first | exact True.intro | with_reducible assumption | exact unhid (by with_reducible assumption) | rfl | (first | omega | (have z_ := unhid u16_; omega)) | trivial) (by first | exact True.intro | with_reducible assumption | exact unhid (by with_reducible assumption) | rfl | (first | omega | (have z_ := unhid u16_; omega)) | trivial)) ?_
              rintro _ _ ⟨dt482, rfl, hI483, hF484, h481⟩
              refine ⟨rfl, ?_⟩
              have hF485 : Fr [79, 83, 84] dt dt482 := Fr_tr hF462 hF484 (by decide)
              rcases h481 with ⟨rfl, h481⟩ | ⟨rfl, h481⟩
              · skip
                obtain ⟨h481_0, h481_1, h481_2, h481_3, h481_4⟩ := h481
                have w486 : dt482 79 2 = dt 79 2 := h481_1.trans w463
                have w487 : dt482 79 9 = dt 79 9 := h481_2.trans w464
                have w488 : dt482 79 10 = dt 79 10 := h481_3.trans w465
                have w489 : dt482 79 12 = dt 79 12 := h481_4.trans w467
                have fl490 := RSX_0 h481_0 rfl
                have fe491 : (gLF (KF 1 b n) (VF b n) (dt 79 10)) i = (gB_ (KF 1 b n) (VF b n) 8) (j384 + 1) := hp474.trans ((show (fun i => gB (gB_ (KF 1 b n) (VF b n) 8 i) (gK (KF 1 b n) 59)) (j384 + 1) = gB ((gB_ (KF 1 b n) (VF b n) 8) (j384 + 1)) (gK (KF 1 b n) 59) by rfl).trans (gB_no fl490.1))
                clear h481_1 w463 h481_2 w464 h481_3 h481_4 w467
                refine go_retq PM173 (k := 2) (r := some (.inl 0)) (w1 := (SH, dt482)) rfl ?_
                exact ⟨dt482, rfl, hI483, hF485, (Or.inl ⟨rfl, ⟨by exact RSX_f fe491 fl490 (by first | rfl | with_reducible assumption | exact unhid (by with_reducible assumption) | (first | omega | (have z_ := unhid u16_; omega))) (by first | rfl | with_reducible assumption | exact unhid (by with_reducible assumption) | (first | omega | (have z_ := unhid u16_; omega))), by first | exact True.intro | with_reducible assumption | exact unhid (by with_reducible assumption) | rfl | (first | omega | (have z_ := unhid u16_; omega)) | trivial, by first | exact True.intro | with_reducible assumption | exact unhid (by with_reducible assumption) | rfl | (first | omega | (have z_ := unhid u16_; omega)) | trivial, by first | exact True.intro | with_reducible assumption | exact unhid (by with_reducible assumption) | rfl | (first | omega | (have z_ := unhid u16_; omega)) | trivial, by first | exact True.intro | with_reducible assumption | exact unhid (by with_reducible assumption) | rfl | (first | omega | (have z_ := unhid u16_; omega)) | trivial⟩⟩)⟩
              · skip
                obtain ⟨h481_0, h481_1, h481_2, h481_3, h481_4, h481_5, h481_6, h481_7, h481_8, h481_9⟩ := h481
                have w492 : dt482 79 2 = dt 79 2 := h481_4.trans w463
                have w493 : dt482 79 9 = dt 79 9 := h481_5.trans w464
                have w494 : dt482 79 10 = dt 79 10 := h481_6.trans w465
                have w495 : dt482 79 12 = dt 79 12 := h481_7.trans w467
                have w496 : dt482 79 17 = dt 79 17 := h481_8.trans w468
                have w497 : dt482 79 20 = 0 := h481_9.trans w469
                obtain ⟨j498, ej499, hc500⟩ := RSX_1 h481_0 (by decide)
                have hp501 : (gLF (KF 1 b n) (VF b n) (dt 79 10)) i = (gK (KF 1 b n) 59) j498 := hp474.trans ((show (fun i => gB (gB_ (KF 1 b n) (VF b n) 8 i) (gK (KF 1 b n) 59)) (j384 + 1) = gB ((gB_ (KF 1 b n) (VF b n) 8) (j384 + 1)) (gK (KF 1 b n) 59) by rfl).trans (by rw [ej499]; exact gB_0))
                have hi502 : j498 ≤ t := by have z := gB__M (K := (KF 1 b n)) (V := (VF b n)) (d := 8) (i := (j384 + 1)) hz; rw [ej499] at z; have y := z rfl; simp only at y; (first | omega | (have z_ := unhid u16_; omega))
                clear cr475 cb476 cd476 cv477 ck478
                have cr503 := hid (CUR_R hc500 (.inr rfl))
                have cd504 := CUR_d (hc500)
                have cb504 := hid (CUR_b hc500)
                have cv505 := hid (CUR_v hc500)
                have ck506 := hid (KZ_lt (i := j498) hz)
                have c1507 := (hc500).1
                have ci508 := hi502
                clear h481_4 w463 h481_5 w464 h481_6 h481_7 w467 h481_8 w468 h481_9 w469
                have r509 : 0 ≤ dt482 79 10 ∧ dt482 79 10 ≤ 24 := InvC_get hI483 79 10 rfl rfl
                have r510 : 0 ≤ dt482 79 11 ∧ dt482 79 11 ≤ 510 := InvC_get hI483 79 11 rfl rfl
                refine go_toq PM173 (k := 11) (pc' := 183) (L' := [some (.inr (.inr (some 79))), some (.inl 1)]) (st' := [.inl (dt482 79 11), .inl ((4 * (dt482 79 10)) + 3), .inr (.inr (some 83))]) (w' := (SH, dt482)) rfl ?_
                have u17_ := hid (And.intro (unhid c6) (And.intro (unhid cr503) (And.intro (unhid cb504) (And.intro (unhid cv505) (unhid ck506)))))
                have hI511 : InvC (u2 dt482 83 (((4 * (dt482 79 10)) + 3).toNat) (dt482 79 11)) := InvC_u2 hI483 (lo := -2147483648) (hi := 2147483647) rfl rfl rfl (by first | exact bnd1 r510 (by decide) | (first | omega | (have z_ := unhid u17_; omega))) (by first | exact bnd2 r510 (by decide) | (first | omega | (have z_ := unhid u17_; omega)))
                have hF512 : Fr [79, 83, 84] dt (u2 dt482 83 (((4 * (dt482 79 10)) + 3).toNat) (dt482 79 11)) := Fr_u2 hF485 (by decide)
                have w513 : (u2 dt482 83 (((4 * (dt482 79 10)) + 3).toNat) (dt482 79 11)) 79 2 = dt 79 2 := w492
                have w514 : (u2 dt482 83 (((4 * (dt482 79 10)) + 3).toNat) (dt482 79 11)) 79 9 = dt 79 9 := w493
                have w515 : (u2 dt482 83 (((4 * (dt482 79 10)) + 3).toNat) (dt482 79 11)) 79 10 = dt 79 10 := w494
                have w516 : (u2 dt482 83 (((4 * (dt482 79 10)) + 3).toNat) (dt482 79 11)) 79 11 = dt482 79 11 := rfl
                have w517 : (u2 dt482 83 (((4 * (dt482 79 10)) + 3).toNat) (dt482 79 11)) 79 12 = dt 79 12 := w495
                have w518 : (u2 dt482 83 (((4 * (dt482 79 10)) + 3).toNat) (dt482 79 11)) 79 13 = dt482 79 13 := rfl
                have w519 : (u2 dt482 83 (((4 * (dt482 79 10)) + 3).toNat) (dt482 79 11)) 79 14 = dt482 79 14 := rfl
                have w520 : (u2 dt482 83 (((4 * (dt482 79 10)) + 3).toNat) (dt482 79 11)) 79 15 = dt482 79 15 := rfl
                have w521 : (u2 dt482 83 (((4 * (dt482 79 10)) + 3).toNat) (dt482 79 11)) 79 16 = dt482 79 16 := rfl
                have w522 : (u2 dt482 83 (((4 * (dt482 79 10)) + 3).toNat) (dt482 79 11)) 79 17 = dt 79 17 := w496
                have w523 : (u2 dt482 83 (((4 * (dt482 79 10)) + 3).toNat) (dt482 79 11)) 79 18 = dt482 79 18 := rfl
                have w524 : (u2 dt482 83 (((4 * (dt482 79 10)) + 3).toNat) (dt482 79 11)) 79 20 = 0 := w497
                have hc525 : CUR 1 b n (u2 dt482 83 (((4 * (dt482 79 10)) + 3).toNat) (dt482 79 11)) j498 := CUR_sm hc500 rfl rfl rfl rfl
                refine go_smpq PM173 (L' := [some (.inr (.inr (some 79))), some (.inl 1)]) (st' := []) (w' := (SH, (u2 dt482 83 (((4 * (dt482 79 10)) + 3).toNat) (dt482 79 11)))) rfl rfl (s_iast (n := 64) rfl ⟨by (first | omega | (have z_ := unhid u17_; omega)), by (first | omega | (have z_ := unhid u17_; omega))⟩ (by first | exact bnd r510 (by decide) (by decide) | exact ⟨by (first | omega | (have z_ := unhid u17_; omega)), by (first | omega | (have z_ := unhid u17_; omega))⟩)) ?_
                refine go_toq PM173 (k := 2) (pc' := 188) (L' := [some (.inr (.inr (some 79))), some (.inl 1)]) (st' := [.inl 159, .inr (.inr (some 79))]) (w' := (SH, (u2 dt482 83 (((4 * (dt482 79 10)) + 3).toNat) (dt482 79 11)))) rfl ?_
                refine go_callq PM173 PM161 (Q' := _) rfl rfl rfl rfl (sp_X6_need0_g1 L xs sio (d + 29) (u2 dt482 83 (((4 * (dt482 79 10)) + 3).toNat) (dt482 79 11)) hI511 b n t j498 (by first | exact hbb | (rw [show (u2 dt482 83 (((4 * (dt482 79 10)) + 3).toNat) (dt482 79 11)) 85 = dt 85 from funext (hF512 85 (by decide)), show (u2 dt482 83 (((4 * (dt482 79 10)) + 3).toNat) (dt482 79 11)) 79 12 = dt 79 12 by first | with_reducible assumption | exact unhid (by with_reducible assumption) | (first | omega | (have z_ := unhid u17_; omega))]; exact hbb)) (by first | with_reducible assumption | exact unhid (by with_reducible assumption) | exact Eq.trans (by with_reducible assumption) hnn | (first | omega | (have z_ := unhid u17_; omega))) hz ht hc525 hi502 hn5 159 ⟨by decide, by decide⟩ (by first | exact True.intro | with_reducible assumption | exact unhid (by with_reducible assumption) | rfl | (first | omega | (have z_ := unhid u17_; omega)) | trivial)) ?_
                rintro _ _ ⟨dt527, rfl, hI528, hF529, h526⟩
                refine ⟨rfl, ?_⟩
                have hF530 : Fr [79, 83, 84] dt dt527 := Fr_tr hF512 hF529 (by decide)
                rcases h526 with ⟨rfl, h526⟩ | ⟨rfl, h526⟩
                · skip
                  obtain ⟨h526_0, h526_1, h526_2, h526_3, h526_4⟩ := h526
                  have w531 : dt527 79 2 = dt 79 2 := h526_1.trans w513
                  have w532 : dt527 79 9 = dt 79 9 := h526_2.trans w514
                  have w533 : dt527 79 10 = dt 79 10 := h526_3.trans w515
                  have w534 : dt527 79 12 = dt 79 12 := h526_4.trans w517
                  have fl535 := RSX_0 h526_0 rfl
                  have fe536 : (gLF (KF 1 b n) (VF b n) (dt 79 10)) i = (gK (KF 1 b n) (159 - 100)) j498 := hp501.trans ((show (gK (KF 1 b n) 59) j498 = gB ((gK (KF 1 b n) (159 - 100)) j498) gOk by first | exact gB_id.symm | exact gL2_n (by (first | omega | (have z_ := unhid u17_; omega)))).trans (gB_no fl535.1))
                  clear h526_1 w513 h526_2 w514 h526_3 w515 h526_4 w517
                  refine go_retq PM173 (k := 0) (r := some (.inl 0)) (w1 := (SH, dt527)) rfl ?_
                  exact ⟨dt527, rfl, hI528, hF530, (Or.inl ⟨rfl, ⟨by exact RSX_f fe536 fl535 (by first | rfl | with_reducible assumption | exact unhid (by with_reducible assumption) | (first | omega | (have z_ := unhid u17_; omega))) (by first | rfl | with_reducible assumption | exact unhid (by with_reducible assumption) | (first | omega | (have z_ := unhid u17_; omega))), by first | exact True.intro | with_reducible assumption | exact unhid (by with_reducible assumption) | rfl | (first | omega | (have z_ := unhid u17_; omega)) | trivial, by first | exact True.intro | with_reducible assumption | exact unhid (by with_reducible assumption) | rfl | (first | omega | (have z_ := unhid u17_; omega)) | trivial, by first | exact True.intro | with_reducible assumption | exact unhid (by with_reducible assumption) | rfl | (first | omega | (have z_ := unhid u17_; omega)) | trivial, by first | exact True.intro | with_reducible assumption | exact unhid (by with_reducible assumption) | rfl | (first | omega | (have z_ := unhid u17_; omega)) | trivial⟩⟩)⟩
                · skip
                  obtain ⟨h526_0, h526_1, h526_2, h526_3, h526_4, h526_5, h526_6, h526_7, h526_8, h526_9⟩ := h526
                  have w537 : dt527 79 2 = dt 79 2 := h526_3.trans w513
                  have w538 : dt527 79 9 = dt 79 9 := h526_4.trans w514
                  have w539 : dt527 79 10 = dt 79 10 := h526_5.trans w515
                  have w540 : dt527 79 11 = dt482 79 11 := h526_6.trans w516
                  have w541 : dt527 79 12 = dt 79 12 := h526_7.trans w517
                  have w542 : dt527 79 17 = dt 79 17 := h526_8.trans w522
                  have w543 : dt527 79 20 = 0 := h526_9.trans w524
                  obtain ⟨j544, ej545, hc546⟩ := RSX_1 h526_0 (by decide)
                  have hp547 : (gLF (KF 1 b n) (VF b n) (dt 79 10)) i = gOk j544 := hp501.trans ((show (gK (KF 1 b n) 59) j498 = gB ((gK (KF 1 b n) (159 - 100)) j498) gOk by first | exact gB_id.symm | exact gL2_n (by (have z_ := unhid u17_; omega))).trans (by rw [ej545]; exact gB_0))
                  have hi548 : j544 ≤ t := by have z := (fun (h : KZ (KF 1 b n) t) => gK_M (K := (KF 1 b n)) (k := 159 - 100) (i := j498) h (by decide)) hz; rw [ej545] at z; have y := z rfl; simp only at y; (first | omega | (have z_ := unhid u17_; omega))
                  clear cr503 cb504 cd504 cv505 ck506
                  have cr549 := hid (CUR_R hc546 (.inr rfl))
                  have cd550 := CUR_d (hc546)
                  have cb550 := hid (CUR_b hc546)
                  have cv551 := hid (CUR_v hc546)
                  have ck552 := hid (KZ_lt (i := j544) hz)
                  have c1553 := (hc546).1
                  have ci554 := hi548
                  clear h526_3 w513 h526_4 w514 h526_5 w515 h526_6 w516 h526_7 w517 h526_8 w522 h526_9 w524
                  refine go_retq PM173 (k := 0) (r := some (.inl 1)) (w1 := (SH, dt527)) rfl ?_
                  have u18_ := hid (And.intro (unhid c6) (And.intro (unhid cr549) (And.intro (unhid cb550) (And.intro (unhid cv551) (unhid ck552)))))
                  exact ⟨dt527, rfl, hI528, hF530, (Or.inr ⟨rfl, ⟨by exact RSX_ok (hp547.trans (by rfl)) hc546, by first | exact True.intro | with_reducible assumption | exact unhid (by with_reducible assumption) | rfl | (first | omega | (have z_ := unhid u18_; omega)) | trivial, by first | exact True.intro | with_reducible assumption | exact unhid (by with_reducible assumption) | rfl | (first | omega | (have z_ := unhid u18_; omega)) | trivial, by first | exact True.intro | with_reducible assumption | exact unhid (by with_reducible assumption) | rfl | (first | omega | (have z_ := unhid u18_; omega)) | trivial, by first | exact True.intro | with_reducible assumption | exact unhid (by with_reducible assumption) | rfl | (first | omega | (have z_ := unhid u18_; omega)) | trivial, by exact (InvC_get (by assumption) 79 15 rfl rfl).2, by first | exact True.intro | with_reducible assumption | exact unhid (by with_reducible assumption) | rfl | (first | omega | (have z_ := unhid u18_; omega)) | trivial, by first | exact True.intro | with_reducible assumption | exact unhid (by with_reducible assumption) | rfl | (first | omega | (have z_ := unhid u18_; omega)) | trivial, by first | exact True.intro | with_reducible assumption | exact unhid (by with_reducible assumption) | rfl | (first | omega | (have z_ := unhid u18_; omega)) | trivial, by first | exact True.intro | with_reducible assumption | exact unhid (by with_reducible assumption) | rfl | (first | omega | (have z_ := unhid u18_; omega)) | trivial, by first | exact True.intro | with_reducible assumption | exact unhid (by with_reducible assumption) | rfl | (first | omega | (have z_ := unhid u18_; omega)) | trivial⟩⟩)⟩
    · skip
      refine go_toq PM173 (k := 2) (pc' := 35) (L' := [some (.inr (.inr (some 79))), none]) (st' := [.inl 3, .inr (.inr (some 79))]) (w' := (SH, dt)) rfl ?_
      refine go_callq PM173 PM160 (Q' := _) rfl rfl rfl rfl (sp_X6_bad_g L xs sio (d + 36) dt hI  3 ⟨by decide, by decide⟩ ) ?_
      rintro _ _ ⟨dt556, rfl, hI557, hF558, h555⟩
      refine ⟨rfl, ?_⟩
      have hF559 : Fr [79, 83, 84] dt dt556 := Fr_tr hF hF558 (by decide)
      rcases h555 with ⟨rfl, h555⟩
      obtain ⟨h555_0, h555_1, h555_2, h555_3, h555_4, h555_5, h555_6, h555_7, h555_8, h555_9, h555_10, h555_11⟩ := h555
      have w560 : dt556 79 2 = dt 79 2 := h555_2
      have w561 : dt556 79 9 = dt 79 9 := h555_3
      have w562 : dt556 79 10 = dt 79 10 := h555_4
      have w563 : dt556 79 11 = dt 79 11 := h555_5
      have w564 : dt556 79 12 = dt 79 12 := h555_6
      have w565 : dt556 79 13 = dt 79 13 := h555_7
      have w566 : dt556 79 14 = dt 79 14 := h555_8
      have w567 : dt556 79 15 = dt 79 15 := h555_9
      have w568 : dt556 79 16 = dt 79 16 := h555_10
      have w569 : dt556 79 20 = dt 79 20 := h555_11
      have hc570 : CUR 1 b n dt556 i := CUR_sm hc (by first | with_reducible assumption | exact unhid (by with_reducible assumption) | rfl | (first | omega | (have z_ := unhid u1_; omega))) (by first | with_reducible assumption | exact unhid (by with_reducible assumption) | rfl | (first | omega | (have z_ := unhid u1_; omega))) (by first | with_reducible assumption | exact unhid (by with_reducible assumption) | rfl | (first | omega | (have z_ := unhid u1_; omega))) (by first | with_reducible assumption | exact unhid (by with_reducible assumption) | rfl | (first | omega | (have z_ := unhid u1_; omega)))
      clear h555_2 h555_3 h555_4 h555_5 h555_6 h555_7 h555_8 h555_9 h555_10 h555_11
      refine go_retq PM173 (k := 0) (r := some (.inl 0)) (w1 := (SH, dt556)) rfl ?_
      exact ⟨dt556, rfl, hI557, hF559, (Or.inl ⟨rfl, ⟨by exact RSX_no (k := 3) (j := i) ((rfl : (gLF (KF 1 b n) (VF b n) (dt 79 10)) i = (gLF (KF 1 b n) (VF b n) (dt 79 10)) i).trans (by show gLF _ _ _ _ = _; unfold gLF; rw [if_neg (by (first | omega | (have z_ := unhid u1_; omega))), if_pos (by (first | omega | (have z_ := unhid u1_; omega)))])) (by decide) (by (first | omega | (have z_ := unhid u1_; omega))) (by show _ = ((TP b n i : Nat) : Int); (first | omega | (have z_ := unhid u1_; omega))), by first | exact True.intro | with_reducible assumption | exact unhid (by with_reducible assumption) | rfl | (first | omega | (have z_ := unhid u1_; omega)) | trivial, by first | exact True.intro | with_reducible assumption | exact unhid (by with_reducible assumption) | rfl | (first | omega | (have z_ := unhid u1_; omega)) | trivial, by first | exact True.intro | with_reducible assumption | exact unhid (by with_reducible assumption) | rfl | (first | omega | (have z_ := unhid u1_; omega)) | trivial, by first | exact True.intro | with_reducible assumption | exact unhid (by with_reducible assumption) | rfl | (first | omega | (have z_ := unhid u1_; omega)) | trivial⟩⟩)⟩
  · skip
    replace c5 := hid c5
    have u19_ := hid (And.intro (unhid cr0) (And.intro (unhid cb0) (And.intro (unhid cv0) (And.intro (unhid ck0) (unhid c5)))))
    refine go_ifq PM173 (k := 3) (p1 := 24) (p2 := 18) (L' := [some (.inr (.inr (some 79))), none]) (st' := []) (w' := (SH, dt)) rfl (c_eq (a := dt 79 14) (b := 8) (by first | exact bnd r4 (by decide) (by decide) | exact ⟨by (first | omega | (have z_ := unhid u19_; omega)), by (first | omega | (have z_ := unhid u19_; omega))⟩) ⟨by decide, by decide⟩) (fun c571 => ?_) (fun c571 => ?_)
    · skip
      refine go_ifq PM173 (k := 3) (p1 := 39) (p2 := 33) (L' := [some (.inr (.inr (some 79))), none]) (st' := []) (w' := (SH, dt)) rfl (c_ne (a := dt 79 10) (b := 16) (by first | exact bnd r3 (by decide) (by decide) | exact ⟨by (first | omega | (have z_ := unhid u19_; omega)), by (first | omega | (have z_ := unhid u19_; omega))⟩) ⟨by decide, by decide⟩) (fun c572 => ?_) (fun c572 => ?_)
      · skip
        have qc572 : dt 79 10 ≤ 15 := by omega
        replace c572 := hid c572
        have u20_ := hid (And.intro (unhid cr0) (And.intro (unhid cb0) (And.intro (unhid cv0) (And.intro (unhid ck0) (And.intro (unhid c5) (unhid c572))))))
        refine go_ifq PM173 (k := 3) (p1 := 52) (p2 := 48) (L' := [some (.inr (.inr (some 79))), none]) (st' := []) (w' := (SH, dt)) rfl (c_ne (a := dt 79 14) (b := 7) (by first | exact bnd r4 (by decide) (by decide) | exact ⟨by (first | omega | (have z_ := unhid u20_; omega)), by (first | omega | (have z_ := unhid u20_; omega))⟩) ⟨by decide, by decide⟩) (fun c573 => ?_) (fun c573 => ?_)
        · skip
          replace c573 := hid c573
          refine go_toq PM173 (k := 4) (pc' := 56) (L' := [some (.inr (.inr (some 79))), some (.inl 0)]) (st' := [.inl 0, .inr (.inr (some 79))]) (w' := (SH, dt)) rfl ?_
          have hI574 : InvC (u2 dt 79 20 0) := InvC_u2 hI (lo := 0) (hi := 8) rfl rfl rfl (by decide) (by decide)
          have hF575 : Fr [79, 83, 84] dt (u2 dt 79 20 0) := Fr_u2 hF (by decide)
          have w576 : (u2 dt 79 20 0) 79 2 = dt 79 2 := rfl
          have w577 : (u2 dt 79 20 0) 79 9 = dt 79 9 := rfl
          have w578 : (u2 dt 79 20 0) 79 10 = dt 79 10 := rfl
          have w579 : (u2 dt 79 20 0) 79 11 = dt 79 11 := rfl
          have w580 : (u2 dt 79 20 0) 79 12 = dt 79 12 := rfl
          have w581 : (u2 dt 79 20 0) 79 13 = dt 79 13 := rfl
          have w582 : (u2 dt 79 20 0) 79 14 = dt 79 14 := rfl
          have w583 : (u2 dt 79 20 0) 79 15 = dt 79 15 := rfl
          have w584 : (u2 dt 79 20 0) 79 16 = dt 79 16 := rfl
          have w585 : (u2 dt 79 20 0) 79 17 = dt 79 17 := rfl
          have w586 : (u2 dt 79 20 0) 79 18 = dt 79 18 := rfl
          have w587 : (u2 dt 79 20 0) 79 20 = 0 := rfl
          have hc588 : CUR 1 b n (u2 dt 79 20 0) i := CUR_sm hc rfl rfl rfl rfl
          refine go_smpq PM173 (L' := [some (.inr (.inr (some 79))), some (.inl 0)]) (st' := []) (w' := (SH, (u2 dt 79 20 0))) rfl rfl (s_pf rfl rfl rfl rfl ⟨by decide, by decide⟩) ?_
          refine go_toq PM173 (k := 1) (pc' := 60) (L' := [some (.inr (.inr (some 79))), some (.inl 0)]) (st' := [.inr (.inr (some 79))]) (w' := (SH, (u2 dt 79 20 0))) rfl ?_
          have u21_ := hid (And.intro (unhid cr0) (And.intro (unhid cb0) (And.intro (unhid cv0) (And.intro (unhid ck0) (And.intro (unhid c5) (And.intro (unhid c572) (unhid c573)))))))
          refine go_callq PM173 PM159 (Q' := _) rfl rfl rfl rfl (sp_X6_next0_p1 L xs sio (d + 30) (u2 dt 79 20 0) hI574   (by first | exact True.intro | with_reducible assumption | exact unhid (by with_reducible assumption) | rfl | (first | omega | (have z_ := unhid u21_; omega)) | trivial) (by first | exact True.intro | with_reducible assumption | exact unhid (by with_reducible assumption) | rfl | (first | omega | (have z_ := unhid u21_; omega)) | trivial)) ?_
          rintro _ _ ⟨dt590, rfl, hI591, hF592, h589⟩
          refine ⟨rfl, ?_⟩
          have hF593 : Fr [79, 83, 84] dt dt590 := Fr_tr hF575 hF592 (by decide)
          rcases h589 with ⟨rfl, h589⟩
          obtain ⟨h589_0, h589_1, h589_2, h589_3, h589_4, h589_5, h589_6, h589_7, h589_8⟩ := h589
          have w594 : dt590 79 2 = dt 79 2 := h589_2.trans w576
          have w595 : dt590 79 9 = dt 79 9 := h589_3.trans w577
          have w596 : dt590 79 10 = dt 79 10 := h589_4.trans w578
          have w597 : dt590 79 11 = dt 79 11 := h589_5.trans w579
          have w598 : dt590 79 12 = dt 79 12 := h589_6.trans w580
          have w599 : dt590 79 17 = dt 79 17 := h589_7.trans w585
          have w600 : dt590 79 20 = 0 := h589_8.trans w587
          have hq601 := h589_0
          rw [show (u2 dt 79 20 0) 85 = dt 85 from funext (hF575 85 (by decide)), show (u2 dt 79 20 0) 79 12 = dt 79 12 by first | with_reducible assumption | exact unhid (by with_reducible assumption) | (first | omega | (have z_ := unhid u21_; omega)), hbb, show (dt 79 12).toNat = n from (congrArg Int.toNat hnn).trans (Int.toNat_natCast n)] at hq601
          have hc602 : CUR 1 b n dt590 (i + 1) := CUR_n hc588 hq601
          have hi603 : i + 1 ≤ t := by (have z_ := unhid u21_; omega)
          have av604 : (u2 dt 79 20 0) 79 15 + 1 ≤ (u2 dt 79 20 0) 79 13 := by (have z_ := unhid u21_; omega)
          have kk_ : KF 1 b n i = 1001 := by (have z_ := unhid u21_; omega)
          have hp605 : (gLF (KF 1 b n) (VF b n) (dt 79 10)) i = (gL1 (KF 1 b n) (VF b n)) (i + 1) := (rfl : (gLF (KF 1 b n) (VF b n) (dt 79 10)) i = (gLF (KF 1 b n) (VF b n) (dt 79 10)) i).trans (by show gLF _ _ _ _ = _; unfold gLF; rw [if_neg (by (have z_ := unhid u21_; omega)), if_neg (by (have z_ := unhid u21_; omega))]; exact gLine_p (by (have z_ := unhid u21_; omega)))
          clear cr0 cb0 cd0 cv0 ck0
          have cr606 := hid (CUR_R hc602 (.inr rfl))
          have cd607 := CUR_d (hc602)
          have cb607 := hid (CUR_b hc602)
          have cv608 := hid (CUR_v hc602)
          have ck609 := hid (KZ_lt (i := (i + 1)) hz)
          have c1610 := (hc602).1
          have ci611 := hi603
          clear h589_2 w576 h589_3 w577 h589_4 w578 h589_5 w579 h589_6 w580 h589_7 w585 h589_8 w587
          have r612 : 0 ≤ dt590 79 10 ∧ dt590 79 10 ≤ 24 := InvC_get hI591 79 10 rfl rfl
          refine go_toq PM173 (k := 9) (pc' := 86) (L' := [some (.inr (.inr (some 79))), some (.inl 0)]) (st' := [.inl 8, .inl (4 * (dt590 79 10)), .inr (.inr (some 83))]) (w' := (SH, dt590)) rfl ?_
          have hI613 : InvC (u2 dt590 83 ((4 * (dt590 79 10)).toNat) 8) := InvC_u2 hI591 (lo := -2147483648) (hi := 2147483647) rfl rfl rfl (by decide) (by decide)
          have hF614 : Fr [79, 83, 84] dt (u2 dt590 83 ((4 * (dt590 79 10)).toNat) 8) := Fr_u2 hF593 (by decide)
          have w615 : (u2 dt590 83 ((4 * (dt590 79 10)).toNat) 8) 79 2 = dt 79 2 := w594
          have w616 : (u2 dt590 83 ((4 * (dt590 79 10)).toNat) 8) 79 9 = dt 79 9 := w595
          have w617 : (u2 dt590 83 ((4 * (dt590 79 10)).toNat) 8) 79 10 = dt 79 10 := w596
          have w618 : (u2 dt590 83 ((4 * (dt590 79 10)).toNat) 8) 79 11 = dt 79 11 := w597
          have w619 : (u2 dt590 83 ((4 * (dt590 79 10)).toNat) 8) 79 12 = dt 79 12 := w598
          have w620 : (u2 dt590 83 ((4 * (dt590 79 10)).toNat) 8) 79 13 = dt590 79 13 := rfl
          have w621 : (u2 dt590 83 ((4 * (dt590 79 10)).toNat) 8) 79 14 = dt590 79 14 := rfl
          have w622 : (u2 dt590 83 ((4 * (dt590 79 10)).toNat) 8) 79 15 = dt590 79 15 := rfl
          have w623 : (u2 dt590 83 ((4 * (dt590 79 10)).toNat) 8) 79 16 = dt590 79 16 := rfl
          have w624 : (u2 dt590 83 ((4 * (dt590 79 10)).toNat) 8) 79 17 = dt 79 17 := w599
          have w625 : (u2 dt590 83 ((4 * (dt590 79 10)).toNat) 8) 79 18 = dt590 79 18 := rfl
          have w626 : (u2 dt590 83 ((4 * (dt590 79 10)).toNat) 8) 79 20 = 0 := w600
          have hc627 : CUR 1 b n (u2 dt590 83 ((4 * (dt590 79 10)).toNat) 8) (i + 1) := CUR_sm hc602 rfl rfl rfl rfl
          have u22_ := hid (And.intro (unhid c5) (And.intro (unhid c572) (And.intro (unhid c573) (And.intro (unhid cr606) (And.intro (unhid cb607) (And.intro (unhid cv608) (unhid ck609)))))))
          refine go_smpq PM173 (L' := [some (.inr (.inr (some 79))), some (.inl 0)]) (st' := []) (w' := (SH, (u2 dt590 83 ((4 * (dt590 79 10)).toNat) 8))) rfl rfl (s_iast (n := 64) rfl ⟨by (first | omega | (have z_ := unhid u22_; omega)), by (first | omega | (have z_ := unhid u22_; omega))⟩ ⟨by decide, by decide⟩) ?_
          have r628 : 0 ≤ dt590 79 11 ∧ dt590 79 11 ≤ 510 := InvC_get hI591 79 11 rfl rfl
          refine go_toq PM173 (k := 12) (pc' := 119) (L' := [some (.inr (.inr (some 79))), some (.inl 0)]) (st' := [.inl (dt590 79 11), .inl ((4 * (dt590 79 10)) + 1), .inr (.inr (some 83))]) (w' := (SH, (u2 dt590 83 ((4 * (dt590 79 10)).toNat) 8))) rfl ?_
          have hI629 : InvC (u2 (u2 dt590 83 ((4 * (dt590 79 10)).toNat) 8) 83 (((4 * (dt590 79 10)) + 1).toNat) (dt590 79 11)) := InvC_u2 hI613 (lo := -2147483648) (hi := 2147483647) rfl rfl rfl (by first | exact bnd1 r628 (by decide) | (first | omega | (have z_ := unhid u22_; omega))) (by first | exact bnd2 r628 (by decide) | (first | omega | (have z_ := unhid u22_; omega)))
          have hF630 : Fr [79, 83, 84] dt (u2 (u2 dt590 83 ((4 * (dt590 79 10)).toNat) 8) 83 (((4 * (dt590 79 10)) + 1).toNat) (dt590 79 11)) := Fr_u2 hF614 (by decide)
          have w631 : (u2 (u2 dt590 83 ((4 * (dt590 79 10)).toNat) 8) 83 (((4 * (dt590 79 10)) + 1).toNat) (dt590 79 11)) 79 2 = dt 79 2 := w615
          have w632 : (u2 (u2 dt590 83 ((4 * (dt590 79 10)).toNat) 8) 83 (((4 * (dt590 79 10)) + 1).toNat) (dt590 79 11)) 79 9 = dt 79 9 := w616
          have w633 : (u2 (u2 dt590 83 ((4 * (dt590 79 10)).toNat) 8) 83 (((4 * (dt590 79 10)) + 1).toNat) (dt590 79 11)) 79 10 = dt 79 10 := w617
          have w634 : (u2 (u2 dt590 83 ((4 * (dt590 79 10)).toNat) 8) 83 (((4 * (dt590 79 10)) + 1).toNat) (dt590 79 11)) 79 11 = dt 79 11 := w618
          have w635 : (u2 (u2 dt590 83 ((4 * (dt590 79 10)).toNat) 8) 83 (((4 * (dt590 79 10)) + 1).toNat) (dt590 79 11)) 79 12 = dt 79 12 := w619
          have w636 : (u2 (u2 dt590 83 ((4 * (dt590 79 10)).toNat) 8) 83 (((4 * (dt590 79 10)) + 1).toNat) (dt590 79 11)) 79 13 = dt590 79 13 := w620
          have w637 : (u2 (u2 dt590 83 ((4 * (dt590 79 10)).toNat) 8) 83 (((4 * (dt590 79 10)) + 1).toNat) (dt590 79 11)) 79 14 = dt590 79 14 := w621
          have w638 : (u2 (u2 dt590 83 ((4 * (dt590 79 10)).toNat) 8) 83 (((4 * (dt590 79 10)) + 1).toNat) (dt590 79 11)) 79 15 = dt590 79 15 := w622
          have w639 : (u2 (u2 dt590 83 ((4 * (dt590 79 10)).toNat) 8) 83 (((4 * (dt590 79 10)) + 1).toNat) (dt590 79 11)) 79 16 = dt590 79 16 := w623
          have w640 : (u2 (u2 dt590 83 ((4 * (dt590 79 10)).toNat) 8) 83 (((4 * (dt590 79 10)) + 1).toNat) (dt590 79 11)) 79 17 = dt 79 17 := w624
          have w641 : (u2 (u2 dt590 83 ((4 * (dt590 79 10)).toNat) 8) 83 (((4 * (dt590 79 10)) + 1).toNat) (dt590 79 11)) 79 18 = dt590 79 18 := w625
          have w642 : (u2 (u2 dt590 83 ((4 * (dt590 79 10)).toNat) 8) 83 (((4 * (dt590 79 10)) + 1).toNat) (dt590 79 11)) 79 20 = 0 := w626
          clear w615 w616 w617 w618 w619 w620 w621 w622 w623 w624 w625 w626
          have hc643 : CUR 1 b n (u2 (u2 dt590 83 ((4 * (dt590 79 10)).toNat) 8) 83 (((4 * (dt590 79 10)) + 1).toNat) (dt590 79 11)) (i + 1) := CUR_sm hc627 rfl rfl rfl rfl
          refine go_smpq PM173 (L' := [some (.inr (.inr (some 79))), some (.inl 0)]) (st' := []) (w' := (SH, (u2 (u2 dt590 83 ((4 * (dt590 79 10)).toNat) 8) 83 (((4 * (dt590 79 10)) + 1).toNat) (dt590 79 11)))) rfl rfl (s_iast (n := 64) rfl ⟨by (first | omega | (have z_ := unhid u22_; omega)), by (first | omega | (have z_ := unhid u22_; omega))⟩ (by first | exact bnd r628 (by decide) (by decide) | exact ⟨by (first | omega | (have z_ := unhid u22_; omega)), by (first | omega | (have z_ := unhid u22_; omega))⟩)) ?_
          refine go_toq PM173 (k := 1) (pc' := 121) (L' := [some (.inr (.inr (some 79))), some (.inl 0)]) (st' := [.inr (.inr (some 79))]) (w' := (SH, (u2 (u2 dt590 83 ((4 * (dt590 79 10)).toNat) 8) 83 (((4 * (dt590 79 10)) + 1).toNat) (dt590 79 11)))) rfl ?_
          refine go_callq PM173 PM165 (Q' := _) rfl rfl rfl rfl (sp_X6_sumUp_g L xs sio (d + 27) (u2 (u2 dt590 83 ((4 * (dt590 79 10)).toNat) 8) 83 (((4 * (dt590 79 10)) + 1).toNat) (dt590 79 11)) hI629 b n t (i + 1) (by first | exact hbb | (rw [show (u2 (u2 dt590 83 ((4 * (dt590 79 10)).toNat) 8) 83 (((4 * (dt590 79 10)) + 1).toNat) (dt590 79 11)) 85 = dt 85 from funext (hF630 85 (by decide)), show (u2 (u2 dt590 83 ((4 * (dt590 79 10)).toNat) 8) 83 (((4 * (dt590 79 10)) + 1).toNat) (dt590 79 11)) 79 12 = dt 79 12 by first | with_reducible assumption | exact unhid (by with_reducible assumption) | (first | omega | (have z_ := unhid u22_; omega))]; exact hbb)) (by first | with_reducible assumption | exact unhid (by with_reducible assumption) | exact Eq.trans (by with_reducible assumption) hnn | (first | omega | (have z_ := unhid u22_; omega))) hz ht hc643 hi603 hn5  (by first | exact True.intro | with_reducible assumption | exact unhid (by with_reducible assumption) | rfl | (first | omega | (have z_ := unhid u22_; omega)) | trivial) (by first | exact True.intro | with_reducible assumption | exact unhid (by with_reducible assumption) | rfl | (first | omega | (have z_ := unhid u22_; omega)) | trivial)) ?_
          rintro _ _ ⟨dt645, rfl, hI646, hF647, h644⟩
          refine ⟨rfl, ?_⟩
          have hF648 : Fr [79, 83, 84] dt dt645 := Fr_tr hF630 hF647 (by decide)
          rcases h644 with ⟨rfl, h644⟩ | ⟨rfl, h644⟩
          · skip
            obtain ⟨h644_0, h644_1, h644_2, h644_3, h644_4⟩ := h644
            have w649 : dt645 79 2 = dt 79 2 := h644_1.trans w631
            have w650 : dt645 79 9 = dt 79 9 := h644_2.trans w632
            have w651 : dt645 79 10 = dt 79 10 := h644_3.trans w633
            have w652 : dt645 79 12 = dt 79 12 := h644_4.trans w635
            have fl653 := RSX_0 h644_0 rfl
            have fe654 : (gLF (KF 1 b n) (VF b n) (dt 79 10)) i = (gE (KF 1 b n) (VF b n)) (i + 1) := hp605.trans ((show (gL1 (KF 1 b n) (VF b n)) (i + 1) = gB ((gE (KF 1 b n) (VF b n)) (i + 1)) (gL2 (KF 1 b n) (VF b n)) by rfl).trans (gB_no fl653.1))
            clear h644_1 w631 h644_2 w632 h644_3 w633 h644_4 w635
            refine go_retq PM173 (k := 2) (r := some (.inl 0)) (w1 := (SH, dt645)) rfl ?_
            exact ⟨dt645, rfl, hI646, hF648, (Or.inl ⟨rfl, ⟨by exact RSX_f fe654 fl653 (by first | rfl | with_reducible assumption | exact unhid (by with_reducible assumption) | (first | omega | (have z_ := unhid u22_; omega))) (by first | rfl | with_reducible assumption | exact unhid (by with_reducible assumption) | (first | omega | (have z_ := unhid u22_; omega))), by first | exact True.intro | with_reducible assumption | exact unhid (by with_reducible assumption) | rfl | (first | omega | (have z_ := unhid u22_; omega)) | trivial, by first | exact True.intro | with_reducible assumption | exact unhid (by with_reducible assumption) | rfl | (first | omega | (have z_ := unhid u22_; omega)) | trivial, by first | exact True.intro | with_reducible assumption | exact unhid (by with_reducible assumption) | rfl | (first | omega | (have z_ := unhid u22_; omega)) | trivial, by first | exact True.intro | with_reducible assumption | exact unhid (by with_reducible assumption) | rfl | (first | omega | (have z_ := unhid u22_; omega)) | trivial⟩⟩)⟩
          · skip
            obtain ⟨h644_0, h644_1, h644_2, h644_3, h644_4, h644_5, h644_6, h644_7, h644_8, h644_9⟩ := h644
            have w655 : dt645 79 2 = dt 79 2 := h644_4.trans w631
            have w656 : dt645 79 9 = dt 79 9 := h644_5.trans w632
            have w657 : dt645 79 10 = dt 79 10 := h644_6.trans w633
            have w658 : dt645 79 12 = dt 79 12 := h644_7.trans w635
            have w659 : dt645 79 17 = dt 79 17 := h644_8.trans w640
            have w660 : dt645 79 20 = 0 := h644_9.trans w642
            obtain ⟨j661, ej662, hc663⟩ := RSX_1 h644_0 (by decide)
            have hp664 : (gLF (KF 1 b n) (VF b n) (dt 79 10)) i = (gL2 (KF 1 b n) (VF b n)) j661 := hp605.trans ((show (gL1 (KF 1 b n) (VF b n)) (i + 1) = gB ((gE (KF 1 b n) (VF b n)) (i + 1)) (gL2 (KF 1 b n) (VF b n)) by rfl).trans (by rw [ej662]; exact gB_0))
            have hi665 : j661 ≤ t := by have z := gE_M (K := (KF 1 b n)) (V := (VF b n)) (i := (i + 1)) hz; rw [ej662] at z; have y := z rfl; simp only at y; (first | omega | (have z_ := unhid u22_; omega))
            clear cr606 cb607 cd607 cv608 ck609
            have cr666 := hid (CUR_R hc663 (.inr rfl))
            have cd667 := CUR_d (hc663)
            have cb667 := hid (CUR_b hc663)
            have cv668 := hid (CUR_v hc663)
            have ck669 := hid (KZ_lt (i := j661) hz)
            have c1670 := (hc663).1
            have ci671 := hi665
            clear h644_4 w631 h644_5 w632 h644_6 w633 h644_7 w635 h644_8 w640 h644_9 w642
            have r672 : 0 ≤ dt645 79 10 ∧ dt645 79 10 ≤ 24 := InvC_get hI646 79 10 rfl rfl
            have r673 : 0 ≤ dt645 79 11 ∧ dt645 79 11 ≤ 510 := InvC_get hI646 79 11 rfl rfl
            refine go_toq PM173 (k := 11) (pc' := 145) (L' := [some (.inr (.inr (some 79))), some (.inl 0)]) (st' := [.inl (dt645 79 11), .inl ((4 * (dt645 79 10)) + 2), .inr (.inr (some 83))]) (w' := (SH, dt645)) rfl ?_
            have u23_ := hid (And.intro (unhid c5) (And.intro (unhid c572) (And.intro (unhid c573) (And.intro (unhid cr666) (And.intro (unhid cb667) (And.intro (unhid cv668) (unhid ck669)))))))
            have hI674 : InvC (u2 dt645 83 (((4 * (dt645 79 10)) + 2).toNat) (dt645 79 11)) := InvC_u2 hI646 (lo := -2147483648) (hi := 2147483647) rfl rfl rfl (by first | exact bnd1 r673 (by decide) | (first | omega | (have z_ := unhid u23_; omega))) (by first | exact bnd2 r673 (by decide) | (first | omega | (have z_ := unhid u23_; omega)))
            have hF675 : Fr [79, 83, 84] dt (u2 dt645 83 (((4 * (dt645 79 10)) + 2).toNat) (dt645 79 11)) := Fr_u2 hF648 (by decide)
            have w676 : (u2 dt645 83 (((4 * (dt645 79 10)) + 2).toNat) (dt645 79 11)) 79 2 = dt 79 2 := w655
            have w677 : (u2 dt645 83 (((4 * (dt645 79 10)) + 2).toNat) (dt645 79 11)) 79 9 = dt 79 9 := w656
            have w678 : (u2 dt645 83 (((4 * (dt645 79 10)) + 2).toNat) (dt645 79 11)) 79 10 = dt 79 10 := w657
            have w679 : (u2 dt645 83 (((4 * (dt645 79 10)) + 2).toNat) (dt645 79 11)) 79 11 = dt645 79 11 := rfl
            have w680 : (u2 dt645 83 (((4 * (dt645 79 10)) + 2).toNat) (dt645 79 11)) 79 12 = dt 79 12 := w658
            have w681 : (u2 dt645 83 (((4 * (dt645 79 10)) + 2).toNat) (dt645 79 11)) 79 13 = dt645 79 13 := rfl
            have w682 : (u2 dt645 83 (((4 * (dt645 79 10)) + 2).toNat) (dt645 79 11)) 79 14 = dt645 79 14 := rfl
            have w683 : (u2 dt645 83 (((4 * (dt645 79 10)) + 2).toNat) (dt645 79 11)) 79 15 = dt645 79 15 := rfl
            have w684 : (u2 dt645 83 (((4 * (dt645 79 10)) + 2).toNat) (dt645 79 11)) 79 16 = dt645 79 16 := rfl
            have w685 : (u2 dt645 83 (((4 * (dt645 79 10)) + 2).toNat) (dt645 79 11)) 79 17 = dt 79 17 := w659
            have w686 : (u2 dt645 83 (((4 * (dt645 79 10)) + 2).toNat) (dt645 79 11)) 79 18 = dt645 79 18 := rfl
            have w687 : (u2 dt645 83 (((4 * (dt645 79 10)) + 2).toNat) (dt645 79 11)) 79 20 = 0 := w660
            have hc688 : CUR 1 b n (u2 dt645 83 (((4 * (dt645 79 10)) + 2).toNat) (dt645 79 11)) j661 := CUR_sm hc663 rfl rfl rfl rfl
            refine go_smpq PM173 (L' := [some (.inr (.inr (some 79))), some (.inl 0)]) (st' := []) (w' := (SH, (u2 dt645 83 (((4 * (dt645 79 10)) + 2).toNat) (dt645 79 11)))) rfl rfl (s_iast (n := 64) rfl ⟨by (first | omega | (have z_ := unhid u23_; omega)), by (first | omega | (have z_ := unhid u23_; omega))⟩ (by first | exact bnd r673 (by decide) (by decide) | exact ⟨by (first | omega | (have z_ := unhid u23_; omega)), by (first | omega | (have z_ := unhid u23_; omega))⟩)) ?_
            have r689 : (-2147483648) ≤ dt645 79 14 ∧ dt645 79 14 ≤ 2147483647 := InvC_get hI646 79 14 rfl rfl
            refine go_ifq PM173 (k := 3) (p1 := 167) (p2 := 154) (L' := [some (.inr (.inr (some 79))), some (.inl 0)]) (st' := []) (w' := (SH, (u2 dt645 83 (((4 * (dt645 79 10)) + 2).toNat) (dt645 79 11)))) rfl (c_ne (a := dt645 79 14) (b := 3) (by first | exact bnd r689 (by decide) (by decide) | exact ⟨by (first | omega | (have z_ := unhid u23_; omega)), by (first | omega | (have z_ := unhid u23_; omega))⟩) ⟨by decide, by decide⟩) (fun c690 => ?_) (fun c690 => ?_)
            · skip
              replace c690 := hid c690
              refine go_toq PM173 (k := 10) (pc' := 183) (L' := [some (.inr (.inr (some 79))), some (.inl 0)]) (st' := [.inl (dt645 79 11), .inl ((4 * (dt645 79 10)) + 3), .inr (.inr (some 83))]) (w' := (SH, (u2 dt645 83 (((4 * (dt645 79 10)) + 2).toNat) (dt645 79 11)))) rfl ?_
              have u24_ := hid (And.intro (unhid c5) (And.intro (unhid c572) (And.intro (unhid c573) (And.intro (unhid cr666) (And.intro (unhid cb667) (And.intro (unhid cv668) (And.intro (unhid ck669) (unhid c690))))))))
              have v25_ := hid (And.intro (unhid cr666) (And.intro (unhid cb667) (And.intro (unhid cv668) (unhid ck669))))
              have hI691 : InvC (u2 (u2 dt645 83 (((4 * (dt645 79 10)) + 2).toNat) (dt645 79 11)) 83 (((4 * (dt645 79 10)) + 3).toNat) (dt645 79 11)) := InvC_u2 hI674 (lo := -2147483648) (hi := 2147483647) rfl rfl rfl (by first | exact bnd1 r673 (by decide) | (first | omega | (have z_ := unhid v25_; omega) | (have z_ := unhid u24_; omega))) (by first | exact bnd2 r673 (by decide) | (first | omega | (have z_ := unhid v25_; omega) | (have z_ := unhid u24_; omega)))
              have hF692 : Fr [79, 83, 84] dt (u2 (u2 dt645 83 (((4 * (dt645 79 10)) + 2).toNat) (dt645 79 11)) 83 (((4 * (dt645 79 10)) + 3).toNat) (dt645 79 11)) := Fr_u2 hF675 (by decide)
              have w693 : (u2 (u2 dt645 83 (((4 * (dt645 79 10)) + 2).toNat) (dt645 79 11)) 83 (((4 * (dt645 79 10)) + 3).toNat) (dt645 79 11)) 79 2 = dt 79 2 := w676
              have w694 : (u2 (u2 dt645 83 (((4 * (dt645 79 10)) + 2).toNat) (dt645 79 11)) 83 (((4 * (dt645 79 10)) + 3).toNat) (dt645 79 11)) 79 9 = dt 79 9 := w677
              have w695 : (u2 (u2 dt645 83 (((4 * (dt645 79 10)) + 2).toNat) (dt645 79 11)) 83 (((4 * (dt645 79 10)) + 3).toNat) (dt645 79 11)) 79 10 = dt 79 10 := w678
              have w696 : (u2 (u2 dt645 83 (((4 * (dt645 79 10)) + 2).toNat) (dt645 79 11)) 83 (((4 * (dt645 79 10)) + 3).toNat) (dt645 79 11)) 79 11 = dt645 79 11 := w679
              have w697 : (u2 (u2 dt645 83 (((4 * (dt645 79 10)) + 2).toNat) (dt645 79 11)) 83 (((4 * (dt645 79 10)) + 3).toNat) (dt645 79 11)) 79 12 = dt 79 12 := w680
              have w698 : (u2 (u2 dt645 83 (((4 * (dt645 79 10)) + 2).toNat) (dt645 79 11)) 83 (((4 * (dt645 79 10)) + 3).toNat) (dt645 79 11)) 79 13 = dt645 79 13 := w681
              have w699 : (u2 (u2 dt645 83 (((4 * (dt645 79 10)) + 2).toNat) (dt645 79 11)) 83 (((4 * (dt645 79 10)) + 3).toNat) (dt645 79 11)) 79 14 = dt645 79 14 := w682
              have w700 : (u2 (u2 dt645 83 (((4 * (dt645 79 10)) + 2).toNat) (dt645 79 11)) 83 (((4 * (dt645 79 10)) + 3).toNat) (dt645 79 11)) 79 15 = dt645 79 15 := w683
              have w701 : (u2 (u2 dt645 83 (((4 * (dt645 79 10)) + 2).toNat) (dt645 79 11)) 83 (((4 * (dt645 79 10)) + 3).toNat) (dt645 79 11)) 79 16 = dt645 79 16 := w684
              have w702 : (u2 (u2 dt645 83 (((4 * (dt645 79 10)) + 2).toNat) (dt645 79 11)) 83 (((4 * (dt645 79 10)) + 3).toNat) (dt645 79 11)) 79 17 = dt 79 17 := w685
              have w703 : (u2 (u2 dt645 83 (((4 * (dt645 79 10)) + 2).toNat) (dt645 79 11)) 83 (((4 * (dt645 79 10)) + 3).toNat) (dt645 79 11)) 79 18 = dt645 79 18 := w686
              have w704 : (u2 (u2 dt645 83 (((4 * (dt645 79 10)) + 2).toNat) (dt645 79 11)) 83 (((4 * (dt645 79 10)) + 3).toNat) (dt645 79 11)) 79 20 = 0 := w687
              clear w676 w677 w678 w679 w680 w681 w682 w683 w684 w685 w686 w687
              have hc705 : CUR 1 b n (u2 (u2 dt645 83 (((4 * (dt645 79 10)) + 2).toNat) (dt645 79 11)) 83 (((4 * (dt645 79 10)) + 3).toNat) (dt645 79 11)) j661 := CUR_sm hc688 rfl rfl rfl rfl
              refine go_smpq PM173 (L' := [some (.inr (.inr (some 79))), some (.inl 0)]) (st' := []) (w' := (SH, (u2 (u2 dt645 83 (((4 * (dt645 79 10)) + 2).toNat) (dt645 79 11)) 83 (((4 * (dt645 79 10)) + 3).toNat) (dt645 79 11)))) rfl rfl (s_iast (n := 64) rfl ⟨by (first | omega | (have z_ := unhid v25_; omega) | (have z_ := unhid u24_; omega)), by (first | omega | (have z_ := unhid v25_; omega) | (have z_ := unhid u24_; omega))⟩ (by first | exact bnd r673 (by decide) (by decide) | exact ⟨by (first | omega | (have z_ := unhid v25_; omega) | (have z_ := unhid u24_; omega)), by (first | omega | (have z_ := unhid v25_; omega) | (have z_ := unhid u24_; omega))⟩)) ?_
              refine go_toq PM173 (k := 2) (pc' := 188) (L' := [some (.inr (.inr (some 79))), some (.inl 0)]) (st' := [.inl 159, .inr (.inr (some 79))]) (w' := (SH, (u2 (u2 dt645 83 (((4 * (dt645 79 10)) + 2).toNat) (dt645 79 11)) 83 (((4 * (dt645 79 10)) + 3).toNat) (dt645 79 11)))) rfl ?_
              refine go_callq PM173 PM161 (Q' := _) rfl rfl rfl rfl (sp_X6_need0_g1 L xs sio (d + 29) (u2 (u2 dt645 83 (((4 * (dt645 79 10)) + 2).toNat) (dt645 79 11)) 83 (((4 * (dt645 79 10)) + 3).toNat) (dt645 79 11)) hI691 b n t j661 (by first | exact hbb | (rw [show (u2 (u2 dt645 83 (((4 * (dt645 79 10)) + 2).toNat) (dt645 79 11)) 83 (((4 * (dt645 79 10)) + 3).toNat) (dt645 79 11)) 85 = dt 85 from funext (hF692 85 (by decide)), show (u2 (u2 dt645 83 (((4 * (dt645 79 10)) + 2).toNat) (dt645 79 11)) 83 (((4 * (dt645 79 10)) + 3).toNat) (dt645 79 11)) 79 12 = dt 79 12 by first | with_reducible assumption | exact unhid (by with_reducible assumption) | (first | omega | (have z_ := unhid v25_; omega) | (have z_ := unhid u24_; omega))]; exact hbb)) (by first | with_reducible assumption | exact unhid (by with_reducible assumption) | exact Eq.trans (by with_reducible assumption) hnn | (first | omega | (have z_ := unhid v25_; omega) | (have z_ := unhid u24_; omega))) hz ht hc705 hi665 hn5 159 ⟨by decide, by decide⟩ (by first | exact True.intro | with_reducible assumption | exact unhid (by with_reducible assumption) | rfl | (first | omega | (have z_ := unhid v25_; omega) | (have z_ := unhid u24_; omega)) | trivial)) ?_
              rintro _ _ ⟨dt707, rfl, hI708, hF709, h706⟩
              refine ⟨rfl, ?_⟩
              have hF710 : Fr [79, 83, 84] dt dt707 := Fr_tr hF692 hF709 (by decide)
              rcases h706 with ⟨rfl, h706⟩ | ⟨rfl, h706⟩
              · skip
                obtain ⟨h706_0, h706_1, h706_2, h706_3, h706_4⟩ := h706
                have w711 : dt707 79 2 = dt 79 2 := h706_1.trans w693
                have w712 : dt707 79 9 = dt 79 9 := h706_2.trans w694
                have w713 : dt707 79 10 = dt 79 10 := h706_3.trans w695
                have w714 : dt707 79 12 = dt 79 12 := h706_4.trans w697
                have fl715 := RSX_0 h706_0 rfl
                have fe716 : (gLF (KF 1 b n) (VF b n) (dt 79 10)) i = (gK (KF 1 b n) (159 - 100)) j661 := hp664.trans ((show (gL2 (KF 1 b n) (VF b n)) j661 = gB ((gK (KF 1 b n) (159 - 100)) j661) gOk by first | exact gB_id.symm | exact gL2_n (by (first | omega | (have z_ := unhid v25_; omega) | (have z_ := unhid u24_; omega)))).trans (gB_no fl715.1))
                clear h706_1 w693 h706_2 w694 h706_3 w695 h706_4 w697
                refine go_retq PM173 (k := 0) (r := some (.inl 0)) (w1 := (SH, dt707)) rfl ?_
                exact ⟨dt707, rfl, hI708, hF710, (Or.inl ⟨rfl, ⟨by exact RSX_f fe716 fl715 (by first | rfl | with_reducible assumption | exact unhid (by with_reducible assumption) | (first | omega | (have z_ := unhid v25_; omega) | (have z_ := unhid u24_; omega))) (by first | rfl | with_reducible assumption | exact unhid (by with_reducible assumption) | (first | omega | (have z_ := unhid v25_; omega) | (have z_ := unhid u24_; omega))), by first | exact True.intro | with_reducible assumption | exact unhid (by with_reducible assumption) | rfl | (first | omega | (have z_ := unhid v25_; omega) | (have z_ := unhid u24_; omega)) | trivial, by first | exact True.intro | with_reducible assumption | exact unhid (by with_reducible assumption) | rfl | (first | omega | (have z_ := unhid v25_; omega) | (have z_ := unhid u24_; omega)) | trivial, by first | exact True.intro | with_reducible assumption | exact unhid (by with_reducible assumption) | rfl | (first | omega | (have z_ := unhid v25_; omega) | (have z_ := unhid u24_; omega)) | trivial, by first | exact True.intro | with_reducible assumption | exact unhid (by with_reducible assumption) | rfl | (first | omega | (have z_ := unhid v25_; omega) | (have z_ := unhid u24_; omega)) | trivial⟩⟩)⟩
              · skip
                obtain ⟨h706_0, h706_1, h706_2, h706_3, h706_4, h706_5, h706_6, h706_7, h706_8, h706_9⟩ := h706
                have w717 : dt707 79 2 = dt 79 2 := h706_3.trans w693
                have w718 : dt707 79 9 = dt 79 9 := h706_4.trans w694
                have w719 : dt707 79 10 = dt 79 10 := h706_5.trans w695
                have w720 : dt707 79 11 = dt645 79 11 := h706_6.trans w696
                have w721 : dt707 79 12 = dt 79 12 := h706_7.trans w697
                have w722 : dt707 79 17 = dt 79 17 := h706_8.trans w702
                have w723 : dt707 79 20 = 0 := h706_9.trans w704
                obtain ⟨j724, ej725, hc726⟩ := RSX_1 h706_0 (by decide)
                have hp727 : (gLF (KF 1 b n) (VF b n) (dt 79 10)) i = gOk j724 := hp664.trans ((show (gL2 (KF 1 b n) (VF b n)) j661 = gB ((gK (KF 1 b n) (159 - 100)) j661) gOk by first | exact gB_id.symm | exact gL2_n (by (have z_ := unhid u24_; omega))).trans (by rw [ej725]; exact gB_0))
                have hi728 : j724 ≤ t := by have z := (fun (h : KZ (KF 1 b n) t) => gK_M (K := (KF 1 b n)) (k := 159 - 100) (i := j661) h (by decide)) hz; rw [ej725] at z; have y := z rfl; simp only at y; (first | omega | (have z_ := unhid v25_; omega) | (have z_ := unhid u24_; omega))
                clear cr666 cb667 cd667 cv668 ck669
                have cr729 := hid (CUR_R hc726 (.inr rfl))
                have cd730 := CUR_d (hc726)
                have cb730 := hid (CUR_b hc726)
                have cv731 := hid (CUR_v hc726)
                have ck732 := hid (KZ_lt (i := j724) hz)
                have c1733 := (hc726).1
                have ci734 := hi728
                clear h706_3 w693 h706_4 w694 h706_5 w695 h706_6 w696 h706_7 w697 h706_8 w702 h706_9 w704
                refine go_retq PM173 (k := 0) (r := some (.inl 1)) (w1 := (SH, dt707)) rfl ?_
                have u26_ := hid (And.intro (unhid c5) (And.intro (unhid c572) (And.intro (unhid c573) (And.intro (unhid c690) (And.intro (unhid cr729) (And.intro (unhid cb730) (And.intro (unhid cv731) (unhid ck732))))))))
                have v27_ := hid (And.intro (unhid cr729) (And.intro (unhid cb730) (And.intro (unhid cv731) (unhid ck732))))
                exact ⟨dt707, rfl, hI708, hF710, (Or.inr ⟨rfl, ⟨by exact RSX_ok (hp727.trans (by rfl)) hc726, by first | exact True.intro | with_reducible assumption | exact unhid (by with_reducible assumption) | rfl | (first | omega | (have z_ := unhid v27_; omega) | (have z_ := unhid u26_; omega)) | trivial, by first | exact True.intro | with_reducible assumption | exact unhid (by with_reducible assumption) | rfl | (first | omega | (have z_ := unhid v27_; omega) | (have z_ := unhid u26_; omega)) | trivial, by first | exact True.intro | with_reducible assumption | exact unhid (by with_reducible assumption) | rfl | (first | omega | (have z_ := unhid v27_; omega) | (have z_ := unhid u26_; omega)) | trivial, by first | exact True.intro | with_reducible assumption | exact unhid (by with_reducible assumption) | rfl | (first | omega | (have z_ := unhid v27_; omega) | (have z_ := unhid u26_; omega)) | trivial, by exact (InvC_get (by assumption) 79 15 rfl rfl).2, by first | exact True.intro | with_reducible assumption | exact unhid (by with_reducible assumption) | rfl | (first | omega | (have z_ := unhid v27_; omega) | (have z_ := unhid u26_; omega)) | trivial, by first | exact True.intro | with_reducible assumption | exact unhid (by with_reducible assumption) | rfl | (first | omega | (have z_ := unhid v27_; omega) | (have z_ := unhid u26_; omega)) | trivial, by first | exact True.intro | with_reducible assumption | exact unhid (by with_reducible assumption) | rfl | (first | omega | (have z_ := unhid v27_; omega) | (have z_ := unhid u26_; omega)) | trivial, by first | exact True.intro | with_reducible assumption | exact unhid (by with_reducible assumption) | rfl | (first | omega | (have z_ := unhid v27_; omega) | (have z_ := unhid u26_; omega)) | trivial, by first | exact True.intro | with_reducible assumption | exact unhid (by with_reducible assumption) | rfl | (first | omega | (have z_ := unhid v27_; omega) | (have z_ := unhid u26_; omega)) | trivial⟩⟩)⟩
            · skip
              refine go_toq PM173 (k := 1) (pc' := 155) (L' := [some (.inr (.inr (some 79))), some (.inl 0)]) (st' := [.inr (.inr (some 79))]) (w' := (SH, (u2 dt645 83 (((4 * (dt645 79 10)) + 2).toNat) (dt645 79 11)))) rfl ?_
              refine go_callq PM173 PM159 (Q' := _) rfl rfl rfl rfl (sp_X6_next0_p1 L xs sio (d + 30) (u2 dt645 83 (((4 * (dt645 79 10)) + 2).toNat) (dt645 79 11)) hI674   (by first | exact True.intro | with_reducible assumption | exact unhid (by with_reducible assumption) | rfl | (first | omega | (have z_ := unhid u23_; omega)) | trivial) (by first | exact True.intro | with_reducible assumption | exact unhid (by with_reducible assumption) | rfl | (first | omega | (have z_ := unhid u23_; omega)) | trivial)) ?_
              rintro _ _ ⟨dt736, rfl, hI737, hF738, h735⟩
              refine ⟨rfl, ?_⟩
              have hF739 : Fr [79, 83, 84] dt dt736 := Fr_tr hF675 hF738 (by decide)
              rcases h735 with ⟨rfl, h735⟩
              obtain ⟨h735_0, h735_1, h735_2, h735_3, h735_4, h735_5, h735_6, h735_7, h735_8⟩ := h735
              have w740 : dt736 79 2 = dt 79 2 := h735_2.trans w676
              have w741 : dt736 79 9 = dt 79 9 := h735_3.trans w677
              have w742 : dt736 79 10 = dt 79 10 := h735_4.trans w678
              have w743 : dt736 79 11 = dt645 79 11 := h735_5.trans w679
              have w744 : dt736 79 12 = dt 79 12 := h735_6.trans w680
              have w745 : dt736 79 17 = dt 79 17 := h735_7.trans w685
              have w746 : dt736 79 20 = 0 := h735_8.trans w687
              have hq747 := h735_0
              rw [show (u2 dt645 83 (((4 * (dt645 79 10)) + 2).toNat) (dt645 79 11)) 85 = dt 85 from funext (hF675 85 (by decide)), show (u2 dt645 83 (((4 * (dt645 79 10)) + 2).toNat) (dt645 79 11)) 79 12 = dt 79 12 by first | with_reducible assumption | exact unhid (by with_reducible assumption) | (first | omega | (have z_ := unhid u23_; omega)), hbb, show (dt 79 12).toNat = n from (congrArg Int.toNat hnn).trans (Int.toNat_natCast n)] at hq747
              have hc748 : CUR 1 b n dt736 (j661 + 1) := CUR_n hc688 hq747
              have hi749 : j661 + 1 ≤ t := by (have z_ := unhid u23_; omega)
              have av750 : (u2 dt645 83 (((4 * (dt645 79 10)) + 2).toNat) (dt645 79 11)) 79 15 + 1 ≤ (u2 dt645 83 (((4 * (dt645 79 10)) + 2).toNat) (dt645 79 11)) 79 13 := by (have z_ := unhid u23_; omega)
              have hp751 : (gLF (KF 1 b n) (VF b n) (dt 79 10)) i = (fun i => gB (gB_ (KF 1 b n) (VF b n) 8 i) (gK (KF 1 b n) 59)) (j661 + 1) := hp664.trans (by exact gL2_w (by (have z_ := unhid u23_; omega)))
              clear cr666 cb667 cd667 cv668 ck669
              have cr752 := hid (CUR_R hc748 (.inr rfl))
              have cd753 := CUR_d (hc748)
              have cb753 := hid (CUR_b hc748)
              have cv754 := hid (CUR_v hc748)
              have ck755 := hid (KZ_lt (i := (j661 + 1)) hz)
              have c1756 := (hc748).1
              have ci757 := hi749
              clear h735_2 w676 h735_3 w677 h735_4 w678 h735_5 w679 h735_6 w680 h735_7 w685 h735_8 w687
              refine go_toq PM173 (k := 1) (pc' := 159) (L' := [some (.inr (.inr (some 79))), some (.inl 0)]) (st' := [.inr (.inr (some 79))]) (w' := (SH, dt736)) rfl ?_
              have u28_ := hid (And.intro (unhid c5) (And.intro (unhid c572) (And.intro (unhid c573) (And.intro (unhid cr752) (And.intro (unhid cb753) (And.intro (unhid cv754) (unhid ck755)))))))
              refine go_callq PM173 PM168 (Q' := _) rfl rfl rfl rfl (sp_X6_any_g0 L xs sio (d + 0) dt736 hI737 b n t (j661 + 1) (by first | exact hbb | (rw [show dt736 85 = dt 85 from funext (hF739 85 (by decide)), show dt736 79 12 = dt 79 12 by first | with_reducible assumption | exact unhid (by with_reducible assumption) | (first | omega | (have z_ := unhid u28_; omega))]; exact hbb)) (by first | with_reducible assumption | exact unhid (by with_reducible assumption) | exact Eq.trans (by with_reducible assumption) hnn | (first | omega | (have z_ := unhid u28_; omega))) hz ht hc748 hi749 hn5  (by first | exact True.intro | with_reducible assumption | exact unhid (by with_reducible assumption) | rfl | (first | omega | (have z_ := unhid u28_; omega)) | trivial) (by first | exact True.intro | with_reducible assumption | exact unhid (by with_reducible assumption) | rfl | (first | omega | (have z_ := unhid u28_; omega)) | trivial) (by first | exact True.intro | with_reducible assumption | exact unhid (by with_reducible assumption) | rfl | (first | omega | (have z_ := unhid u28_; omega)) | trivial)) ?_
              rintro _ _ ⟨dt759, rfl, hI760, hF761, h758⟩
              refine ⟨rfl, ?_⟩
              have hF762 : Fr [79, 83, 84] dt dt759 := Fr_tr hF739 hF761 (by decide)
              rcases h758 with ⟨rfl, h758⟩ | ⟨rfl, h758⟩
              · skip
                obtain ⟨h758_0, h758_1, h758_2, h758_3, h758_4⟩ := h758
                have w763 : dt759 79 2 = dt 79 2 := h758_1.trans w740
                have w764 : dt759 79 9 = dt 79 9 := h758_2.trans w741
                have w765 : dt759 79 10 = dt 79 10 := h758_3.trans w742
                have w766 : dt759 79 12 = dt 79 12 := h758_4.trans w744
                have fl767 := RSX_0 h758_0 rfl
                have fe768 : (gLF (KF 1 b n) (VF b n) (dt 79 10)) i = (gB_ (KF 1 b n) (VF b n) 8) (j661 + 1) := hp751.trans ((show (fun i => gB (gB_ (KF 1 b n) (VF b n) 8 i) (gK (KF 1 b n) 59)) (j661 + 1) = gB ((gB_ (KF 1 b n) (VF b n) 8) (j661 + 1)) (gK (KF 1 b n) 59) by rfl).trans (gB_no fl767.1))
                clear h758_1 w740 h758_2 w741 h758_3 h758_4 w744
                refine go_retq PM173 (k := 2) (r := some (.inl 0)) (w1 := (SH, dt759)) rfl ?_
                exact ⟨dt759, rfl, hI760, hF762, (Or.inl ⟨rfl, ⟨by exact RSX_f fe768 fl767 (by first | rfl | with_reducible assumption | exact unhid (by with_reducible assumption) | (first | omega | (have z_ := unhid u28_; omega))) (by first | rfl | with_reducible assumption | exact unhid (by with_reducible assumption) | (first | omega | (have z_ := unhid u28_; omega))), by first | exact True.intro | with_reducible assumption | exact unhid (by with_reducible assumption) | rfl | (first | omega | (have z_ := unhid u28_; omega)) | trivial, by first | exact True.intro | with_reducible assumption | exact unhid (by with_reducible assumption) | rfl | (first | omega | (have z_ := unhid u28_; omega)) | trivial, by first | exact True.intro | with_reducible assumption | exact unhid (by with_reducible assumption) | rfl | (first | omega | (have z_ := unhid u28_; omega)) | trivial, by first | exact True.intro | with_reducible assumption | exact unhid (by with_reducible assumption) | rfl | (first | omega | (have z_ := unhid u28_; omega)) | trivial⟩⟩)⟩
              · skip
                obtain ⟨h758_0, h758_1, h758_2, h758_3, h758_4, h758_5, h758_6, h758_7, h758_8, h758_9⟩ := h758
                have w769 : dt759 79 2 = dt 79 2 := h758_4.trans w740
                have w770 : dt759 79 9 = dt 79 9 := h758_5.trans w741
                have w771 : dt759 79 10 = dt 79 10 := h758_6.trans w742
                have w772 : dt759 79 12 = dt 79 12 := h758_7.trans w744
                have w773 : dt759 79 17 = dt 79 17 := h758_8.trans w745
                have w774 : dt759 79 20 = 0 := h758_9.trans w746
                obtain ⟨j775, ej776, hc777⟩ := RSX_1 h758_0 (by decide)
                have hp778 : (gLF (KF 1 b n) (VF b n) (dt 79 10)) i = (gK (KF 1 b n) 59) j775 := hp751.trans ((show (fun i => gB (gB_ (KF 1 b n) (VF b n) 8 i) (gK (KF 1 b n) 59)) (j661 + 1) = gB ((gB_ (KF 1 b n) (VF b n) 8) (j661 + 1)) (gK (KF 1 b n) 59) by rfl).trans (by rw [ej776]; exact gB_0))
                have hi779 : j775 ≤ t := by have z := gB__M (K := (KF 1 b n)) (V := (VF b n)) (d := 8) (i := (j661 + 1)) hz; rw [ej776] at z; have y := z rfl; simp only at y; (first | omega | (have z_ := unhid u28_; omega))
                clear cr752 cb753 cd753 cv754 ck755
                have cr780 := hid (CUR_R hc777 (.inr rfl))
                have cd781 := CUR_d (hc777)
                have cb781 := hid (CUR_b hc777)
                have cv782 := hid (CUR_v hc777)
                have ck783 := hid (KZ_lt (i := j775) hz)
                have c1784 := (hc777).1
                have ci785 := hi779
                clear h758_4 w740 h758_5 w741 h758_6 h758_7 w744 h758_8 w745 h758_9 w746
                have r786 : 0 ≤ dt759 79 10 ∧ dt759 79 10 ≤ 24 := InvC_get hI760 79 10 rfl rfl
                have r787 : 0 ≤ dt759 79 11 ∧ dt759 79 11 ≤ 510 := InvC_get hI760 79 11 rfl rfl
                refine go_toq PM173 (k := 11) (pc' := 183) (L' := [some (.inr (.inr (some 79))), some (.inl 0)]) (st' := [.inl (dt759 79 11), .inl ((4 * (dt759 79 10)) + 3), .inr (.inr (some 83))]) (w' := (SH, dt759)) rfl ?_
                have u29_ := hid (And.intro (unhid c5) (And.intro (unhid c572) (And.intro (unhid c573) (And.intro (unhid cr780) (And.intro (unhid cb781) (And.intro (unhid cv782) (unhid ck783)))))))
                have hI788 : InvC (u2 dt759 83 (((4 * (dt759 79 10)) + 3).toNat) (dt759 79 11)) := InvC_u2 hI760 (lo := -2147483648) (hi := 2147483647) rfl rfl rfl (by first | exact bnd1 r787 (by decide) | (first | omega | (have z_ := unhid u29_; omega))) (by first | exact bnd2 r787 (by decide) | (first | omega | (have z_ := unhid u29_; omega)))
                have hF789 : Fr [79, 83, 84] dt (u2 dt759 83 (((4 * (dt759 79 10)) + 3).toNat) (dt759 79 11)) := Fr_u2 hF762 (by decide)
                have w790 : (u2 dt759 83 (((4 * (dt759 79 10)) + 3).toNat) (dt759 79 11)) 79 2 = dt 79 2 := w769
                have w791 : (u2 dt759 83 (((4 * (dt759 79 10)) + 3).toNat) (dt759 79 11)) 79 9 = dt 79 9 := w770
                have w792 : (u2 dt759 83 (((4 * (dt759 79 10)) + 3).toNat) (dt759 79 11)) 79 10 = dt 79 10 := w771
                have w793 : (u2 dt759 83 (((4 * (dt759 79 10)) + 3).toNat) (dt759 79 11)) 79 11 = dt759 79 11 := rfl
                have w794 : (u2 dt759 83 (((4 * (dt759 79 10)) + 3).toNat) (dt759 79 11)) 79 12 = dt 79 12 := w772
                have w795 : (u2 dt759 83 (((4 * (dt759 79 10)) + 3).toNat) (dt759 79 11)) 79 13 = dt759 79 13 := rfl
                have w796 : (u2 dt759 83 (((4 * (dt759 79 10)) + 3).toNat) (dt759 79 11)) 79 14 = dt759 79 14 := rfl
                have w797 : (u2 dt759 83 (((4 * (dt759 79 10)) + 3).toNat) (dt759 79 11)) 79 15 = dt759 79 15 := rfl
                have w798 : (u2 dt759 83 (((4 * (dt759 79 10)) + 3).toNat) (dt759 79 11)) 79 16 = dt759 79 16 := rfl
                have w799 : (u2 dt759 83 (((4 * (dt759 79 10)) + 3).toNat) (dt759 79 11)) 79 17 = dt 79 17 := w773
                have w800 : (u2 dt759 83 (((4 * (dt759 79 10)) + 3).toNat) (dt759 79 11)) 79 18 = dt759 79 18 := rfl
                have w801 : (u2 dt759 83 (((4 * (dt759 79 10)) + 3).toNat) (dt759 79 11)) 79 20 = 0 := w774
                have hc802 : CUR 1 b n (u2 dt759 83 (((4 * (dt759 79 10)) + 3).toNat) (dt759 79 11)) j775 := CUR_sm hc777 rfl rfl rfl rfl
                refine go_smpq PM173 (L' := [some (.inr (.inr (some 79))), some (.inl 0)]) (st' := []) (w' := (SH, (u2 dt759 83 (((4 * (dt759 79 10)) + 3).toNat) (dt759 79 11)))) rfl rfl (s_iast (n := 64) rfl ⟨by (first | omega | (have z_ := unhid u29_; omega)), by (first | omega | (have z_ := unhid u29_; omega))⟩ (by first | exact bnd r787 (by decide) (by decide) | exact ⟨by (first | omega | (have z_ := unhid u29_; omega)), by (first | omega | (have z_ := unhid u29_; omega))⟩)) ?_
                refine go_toq PM173 (k := 2) (pc' := 188) (L' := [some (.inr (.inr (some 79))), some (.inl 0)]) (st' := [.inl 159, .inr (.inr (some 79))]) (w' := (SH, (u2 dt759 83 (((4 * (dt759 79 10)) + 3).toNat) (dt759 79 11)))) rfl ?_
                refine go_callq PM173 PM161 (Q' := _) rfl rfl rfl rfl (sp_X6_need0_g1 L xs sio (d + 29) (u2 dt759 83 (((4 * (dt759 79 10)) + 3).toNat) (dt759 79 11)) hI788 b n t j775 (by first | exact hbb | (rw [show (u2 dt759 83 (((4 * (dt759 79 10)) + 3).toNat) (dt759 79 11)) 85 = dt 85 from funext (hF789 85 (by decide)), show (u2 dt759 83 (((4 * (dt759 79 10)) + 3).toNat) (dt759 79 11)) 79 12 = dt 79 12 by first | with_reducible assumption | exact unhid (by with_reducible assumption) | (first | omega | (have z_ := unhid u29_; omega))]; exact hbb)) (by first | with_reducible assumption | exact unhid (by with_reducible assumption) | exact Eq.trans (by with_reducible assumption) hnn | (first | omega | (have z_ := unhid u29_; omega))) hz ht hc802 hi779 hn5 159 ⟨by decide, by decide⟩ (by first | exact True.intro | with_reducible assumption | exact unhid (by with_reducible assumption) | rfl | (first | omega | (have z_ := unhid u29_; omega)) | trivial)) ?_
                rintro _ _ ⟨dt804, rfl, hI805, hF806, h803⟩
                refine ⟨rfl, ?_⟩
                have hF807 : Fr [79, 83, 84] dt dt804 := Fr_tr hF789 hF806 (by decide)
                rcases h803 with ⟨rfl, h803⟩ | ⟨rfl, h803⟩
                · skip
                  obtain ⟨h803_0, h803_1, h803_2, h803_3, h803_4⟩ := h803
                  have w808 : dt804 79 2 = dt 79 2 := h803_1.trans w790
                  have w809 : dt804 79 9 = dt 79 9 := h803_2.trans w791
                  have w810 : dt804 79 10 = dt 79 10 := h803_3.trans w792
                  have w811 : dt804 79 12 = dt 79 12 := h803_4.trans w794
                  have fl812 := RSX_0 h803_0 rfl
                  have fe813 : (gLF (KF 1 b n) (VF b n) (dt 79 10)) i = (gK (KF 1 b n) (159 - 100)) j775 := hp778.trans ((show (gK (KF 1 b n) 59) j775 = gB ((gK (KF 1 b n) (159 - 100)) j775) gOk by first | exact gB_id.symm | exact gL2_n (by (first | omega | (have z_ := unhid u29_; omega)))).trans (gB_no fl812.1))
                  clear h803_1 w790 h803_2 w791 h803_3 w792 h803_4 w794
                  refine go_retq PM173 (k := 0) (r := some (.inl 0)) (w1 := (SH, dt804)) rfl ?_
                  exact ⟨dt804, rfl, hI805, hF807, (Or.inl ⟨rfl, ⟨by exact RSX_f fe813 fl812 (by first | rfl | with_reducible assumption | exact unhid (by with_reducible assumption) | (first | omega | (have z_ := unhid u29_; omega))) (by first | rfl | with_reducible assumption | exact unhid (by with_reducible assumption) | (first | omega | (have z_ := unhid u29_; omega))), by first | exact True.intro | with_reducible assumption | exact unhid (by with_reducible assumption) | rfl | (first | omega | (have z_ := unhid u29_; omega)) | trivial, by first | exact True.intro | with_reducible assumption | exact unhid (by with_reducible assumption) | rfl | (first | omega | (have z_ := unhid u29_; omega)) | trivial, by first | exact True.intro | with_reducible assumption | exact unhid (by with_reducible assumption) | rfl | (first | omega | (have z_ := unhid u29_; omega)) | trivial, by first | exact True.intro | with_reducible assumption | exact unhid (by with_reducible assumption) | rfl | (first | omega | (have z_ := unhid u29_; omega)) | trivial⟩⟩)⟩
                · skip
                  obtain ⟨h803_0, h803_1, h803_2, h803_3, h803_4, h803_5, h803_6, h803_7, h803_8, h803_9⟩ := h803
                  have w814 : dt804 79 2 = dt 79 2 := h803_3.trans w790
                  have w815 : dt804 79 9 = dt 79 9 := h803_4.trans w791
                  have w816 : dt804 79 10 = dt 79 10 := h803_5.trans w792
                  have w817 : dt804 79 11 = dt759 79 11 := h803_6.trans w793
                  have w818 : dt804 79 12 = dt 79 12 := h803_7.trans w794
                  have w819 : dt804 79 17 = dt 79 17 := h803_8.trans w799
                  have w820 : dt804 79 20 = 0 := h803_9.trans w801
                  obtain ⟨j821, ej822, hc823⟩ := RSX_1 h803_0 (by decide)
                  have hp824 : (gLF (KF 1 b n) (VF b n) (dt 79 10)) i = gOk j821 := hp778.trans ((show (gK (KF 1 b n) 59) j775 = gB ((gK (KF 1 b n) (159 - 100)) j775) gOk by first | exact gB_id.symm | exact gL2_n (by (have z_ := unhid u29_; omega))).trans (by rw [ej822]; exact gB_0))
                  have hi825 : j821 ≤ t := by have z := (fun (h : KZ (KF 1 b n) t) => gK_M (K := (KF 1 b n)) (k := 159 - 100) (i := j775) h (by decide)) hz; rw [ej822] at z; have y := z rfl; simp only at y; (first | omega | (have z_ := unhid u29_; omega))
                  clear cr780 cb781 cd781 cv782 ck783
                  have cr826 := hid (CUR_R hc823 (.inr rfl))
                  have cd827 := CUR_d (hc823)
                  have cb827 := hid (CUR_b hc823)
                  have cv828 := hid (CUR_v hc823)
                  have ck829 := hid (KZ_lt (i := j821) hz)
                  have c1830 := (hc823).1
                  have ci831 := hi825
                  clear h803_3 w790 h803_4 w791 h803_5 w792 h803_6 w793 h803_7 w794 h803_8 w799 h803_9 w801
                  refine go_retq PM173 (k := 0) (r := some (.inl 1)) (w1 := (SH, dt804)) rfl ?_
                  have u30_ := hid (And.intro (unhid c5) (And.intro (unhid c572) (And.intro (unhid c573) (And.intro (unhid cr826) (And.intro (unhid cb827) (And.intro (unhid cv828) (unhid ck829)))))))
                  exact ⟨dt804, rfl, hI805, hF807, (Or.inr ⟨rfl, ⟨by exact RSX_ok (hp824.trans (by rfl)) hc823, by first | exact True.intro | with_reducible assumption | exact unhid (by with_reducible assumption) | rfl | (first | omega | (have z_ := unhid u30_; omega)) | trivial, by first | exact True.intro | with_reducible assumption | exact unhid (by with_reducible assumption) | rfl | (first | omega | (have z_ := unhid u30_; omega)) | trivial, by first | exact True.intro | with_reducible assumption | exact unhid (by with_reducible assumption) | rfl | (first | omega | (have z_ := unhid u30_; omega)) | trivial, by first | exact True.intro | with_reducible assumption | exact unhid (by with_reducible assumption) | rfl | (first | omega | (have z_ := unhid u30_; omega)) | trivial, by exact (InvC_get (by assumption) 79 15 rfl rfl).2, by first | exact True.intro | with_reducible assumption | exact unhid (by with_reducible assumption) | rfl | (first | omega | (have z_ := unhid u30_; omega)) | trivial, by first | exact True.intro | with_reducible assumption | exact unhid (by with_reducible assumption) | rfl | (first | omega | (have z_ := unhid u30_; omega)) | trivial, by first | exact True.intro | with_reducible assumption | exact unhid (by with_reducible assumption) | rfl | (first | omega | (have z_ := unhid u30_; omega)) | trivial, by first | exact True.intro | with_reducible assumption | exact unhid (by with_reducible assumption) | rfl | (first | omega | (have z_ := unhid u30_; omega)) | trivial, by first | exact True.intro | with_reducible assumption | exact unhid (by with_reducible assumption) | rfl | (first | omega | (have z_ := unhid u30_; omega)) | trivial⟩⟩)⟩
        · exfalso; (first | omega | (have z_ := unhid u20_; omega))
      · skip
        refine go_toq PM173 (k := 2) (pc' := 35) (L' := [some (.inr (.inr (some 79))), none]) (st' := [.inl 3, .inr (.inr (some 79))]) (w' := (SH, dt)) rfl ?_
        refine go_callq PM173 PM160 (Q' := _) rfl rfl rfl rfl (sp_X6_bad_g L xs sio (d + 36) dt hI  3 ⟨by decide, by decide⟩ ) ?_
        rintro _ _ ⟨dt833, rfl, hI834, hF835, h832⟩
        refine ⟨rfl, ?_⟩
        have hF836 : Fr [79, 83, 84] dt dt833 := Fr_tr hF hF835 (by decide)
        rcases h832 with ⟨rfl, h832⟩
        obtain ⟨h832_0, h832_1, h832_2, h832_3, h832_4, h832_5, h832_6, h832_7, h832_8, h832_9, h832_10, h832_11⟩ := h832
        have w837 : dt833 79 2 = dt 79 2 := h832_2
        have w838 : dt833 79 9 = dt 79 9 := h832_3
        have w839 : dt833 79 10 = dt 79 10 := h832_4
        have w840 : dt833 79 11 = dt 79 11 := h832_5
        have w841 : dt833 79 12 = dt 79 12 := h832_6
        have w842 : dt833 79 13 = dt 79 13 := h832_7
        have w843 : dt833 79 14 = dt 79 14 := h832_8
        have w844 : dt833 79 15 = dt 79 15 := h832_9
        have w845 : dt833 79 16 = dt 79 16 := h832_10
        have w846 : dt833 79 20 = dt 79 20 := h832_11
        have hc847 : CUR 1 b n dt833 i := CUR_sm hc (by first | with_reducible assumption | exact unhid (by with_reducible assumption) | rfl | (first | omega | (have z_ := unhid u19_; omega))) (by first | with_reducible assumption | exact unhid (by with_reducible assumption) | rfl | (first | omega | (have z_ := unhid u19_; omega))) (by first | with_reducible assumption | exact unhid (by with_reducible assumption) | rfl | (first | omega | (have z_ := unhid u19_; omega))) (by first | with_reducible assumption | exact unhid (by with_reducible assumption) | rfl | (first | omega | (have z_ := unhid u19_; omega)))
        clear h832_2 h832_3 h832_4 h832_5 h832_6 h832_7 h832_8 h832_9 h832_10 h832_11
        refine go_retq PM173 (k := 0) (r := some (.inl 0)) (w1 := (SH, dt833)) rfl ?_
        exact ⟨dt833, rfl, hI834, hF836, (Or.inl ⟨rfl, ⟨by exact RSX_no (k := 3) (j := i) ((rfl : (gLF (KF 1 b n) (VF b n) (dt 79 10)) i = (gLF (KF 1 b n) (VF b n) (dt 79 10)) i).trans (by show gLF _ _ _ _ = _; unfold gLF; rw [if_neg (by (first | omega | (have z_ := unhid u19_; omega))), if_pos (by (first | omega | (have z_ := unhid u19_; omega)))])) (by decide) (by (first | omega | (have z_ := unhid u19_; omega))) (by show _ = ((TP b n i : Nat) : Int); (first | omega | (have z_ := unhid u19_; omega))), by first | exact True.intro | with_reducible assumption | exact unhid (by with_reducible assumption) | rfl | (first | omega | (have z_ := unhid u19_; omega)) | trivial, by first | exact True.intro | with_reducible assumption | exact unhid (by with_reducible assumption) | rfl | (first | omega | (have z_ := unhid u19_; omega)) | trivial, by first | exact True.intro | with_reducible assumption | exact unhid (by with_reducible assumption) | rfl | (first | omega | (have z_ := unhid u19_; omega)) | trivial, by first | exact True.intro | with_reducible assumption | exact unhid (by with_reducible assumption) | rfl | (first | omega | (have z_ := unhid u19_; omega)) | trivial⟩⟩)⟩
    · skip
      replace c571 := hid c571
      refine go_toq PM173 (k := 2) (pc' := 20) (L' := [some (.inr (.inr (some 79))), none]) (st' := [.inl 1, .inr (.inr (some 79))]) (w' := (SH, dt)) rfl ?_
      refine go_callq PM173 PM160 (Q' := _) rfl rfl rfl rfl (sp_X6_bad_g L xs sio (d + 36) dt hI  1 ⟨by decide, by decide⟩ ) ?_
      rintro _ _ ⟨dt849, rfl, hI850, hF851, h848⟩
      refine ⟨rfl, ?_⟩
      have hF852 : Fr [79, 83, 84] dt dt849 := Fr_tr hF hF851 (by decide)
      rcases h848 with ⟨rfl, h848⟩
      obtain ⟨h848_0, h848_1, h848_2, h848_3, h848_4, h848_5, h848_6, h848_7, h848_8, h848_9, h848_10, h848_11⟩ := h848
      have w853 : dt849 79 2 = dt 79 2 := h848_2
      have w854 : dt849 79 9 = dt 79 9 := h848_3
      have w855 : dt849 79 10 = dt 79 10 := h848_4
      have w856 : dt849 79 11 = dt 79 11 := h848_5
      have w857 : dt849 79 12 = dt 79 12 := h848_6
      have w858 : dt849 79 13 = dt 79 13 := h848_7
      have w859 : dt849 79 14 = dt 79 14 := h848_8
      have w860 : dt849 79 15 = dt 79 15 := h848_9
      have w861 : dt849 79 16 = dt 79 16 := h848_10
      have w862 : dt849 79 20 = dt 79 20 := h848_11
      have u31_ := hid (And.intro (unhid cr0) (And.intro (unhid cb0) (And.intro (unhid cv0) (And.intro (unhid ck0) (And.intro (unhid c5) (unhid c571))))))
      have hc863 : CUR 1 b n dt849 i := CUR_sm hc (by first | with_reducible assumption | exact unhid (by with_reducible assumption) | rfl | (first | omega | (have z_ := unhid u31_; omega))) (by first | with_reducible assumption | exact unhid (by with_reducible assumption) | rfl | (first | omega | (have z_ := unhid u31_; omega))) (by first | with_reducible assumption | exact unhid (by with_reducible assumption) | rfl | (first | omega | (have z_ := unhid u31_; omega))) (by first | with_reducible assumption | exact unhid (by with_reducible assumption) | rfl | (first | omega | (have z_ := unhid u31_; omega)))
      clear h848_2 h848_3 h848_4 h848_5 h848_6 h848_7 h848_8 h848_9 h848_10 h848_11
      refine go_retq PM173 (k := 0) (r := some (.inl 0)) (w1 := (SH, dt849)) rfl ?_
      exact ⟨dt849, rfl, hI850, hF852, (Or.inl ⟨rfl, ⟨by exact RSX_no (k := 1) (j := i) ((rfl : (gLF (KF 1 b n) (VF b n) (dt 79 10)) i = (gLF (KF 1 b n) (VF b n) (dt 79 10)) i).trans (by show gLF _ _ _ _ = _; unfold gLF; rw [if_pos (by (first | omega | (have z_ := unhid u31_; omega)))])) (by decide) (by (first | omega | (have z_ := unhid u31_; omega))) (by show _ = ((TP b n i : Nat) : Int); (first | omega | (have z_ := unhid u31_; omega))), by first | exact True.intro | with_reducible assumption | exact unhid (by with_reducible assumption) | rfl | (first | omega | (have z_ := unhid u31_; omega)) | trivial, by first | exact True.intro | with_reducible assumption | exact unhid (by with_reducible assumption) | rfl | (first | omega | (have z_ := unhid u31_; omega)) | trivial, by first | exact True.intro | with_reducible assumption | exact unhid (by with_reducible assumption) | rfl | (first | omega | (have z_ := unhid u31_; omega)) | trivial, by first | exact True.intro | with_reducible assumption | exact unhid (by with_reducible assumption) | rfl | (first | omega | (have z_ := unhid u31_; omega)) | trivial⟩⟩)⟩
