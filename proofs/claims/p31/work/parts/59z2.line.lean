set_option maxHeartbeats 1500000 in
set_option maxRecDepth 20000 in
theorem sp_X6_aLine_g1 (L : Nat) (xs : Nat → Int32) (sio : Option Nat) (d : Nat) (dt : Nat → Nat → Int) (hI : InvC dt) (b : Nat → Int) (n t i : Nat) (hbb : mB (dt 85) (dt 79 12) = b) (hnn : dt 79 12 = (n : Int)) (hz : KZ (KF 1 b n) t) (ht : t ≤ 500) (hc : CUR 1 b n dt i) (hi : i ≤ t) (hn5 : n ≤ 500)  (h_p0 : dt 79 9 = 1) (h_p1 : dt 79 11 ≤ dt 79 15) (h_p2 : 0 ≤ dt 79 10 ∧ dt 79 10 ≤ 16) : GO (am_XX L xs sio) (d + 37) 173 0 [some (.inr (.inr (some 79))), none] [] (SH, dt) (fun r w2 => ∃ dt2 : Nat → Nat → Int, w2 = (SH, dt2) ∧ InvC dt2 ∧ Fr [79, 83, 84] dt dt2 ∧ ((r = some (.inl 0) ∧ (RSX 1 b n i dt2 0 ((gLF (KF 1 b n) (VF b n) (dt 79 10)) i)) ∧ (dt2 79 2 = dt 79 2) ∧ (dt2 79 9 = dt 79 9) ∧ (dt2 79 10 = dt 79 10) ∧ (dt2 79 12 = dt 79 12)) ∨ (r = some (.inl 1) ∧ (RSX 1 b n i dt2 1 ((gLF (KF 1 b n) (VF b n) (dt 79 10)) i)) ∧ (dt 79 10 ≤ 15) ∧ (dt 79 11 ≤ dt2 79 11) ∧ (dt 79 15 + dt2 79 11 ≤ dt2 79 15 + dt 79 11) ∧ (dt 79 15 + 1 ≤ dt2 79 15) ∧ (dt2 79 15 ≤ 500) ∧ (LXR (dt2 83) (dt2 84) (dt 79 10) (dt 79 11) (dt2 79 11) (KF 1 b n) (VF b n) i) ∧ (∀ j : Nat, (j : Int) < 4 * dt 79 10 → dt2 83 j = dt 83 j) ∧ (∀ j : Nat, (j : Int) < 2 * dt 79 11 → dt2 84 j = dt 84 j) ∧ (dt2 79 2 = dt 79 2) ∧ (dt2 79 9 = dt 79 9) ∧ (dt2 79 10 = dt 79 10) ∧ (dt2 79 12 = dt 79 12) ∧ (dt2 79 17 = dt 79 17)))) := by
  have hF : Fr [79, 83, 84] dt dt := Fr_refl
  have r1 : 0 ≤ dt 79 15 ∧ dt 79 15 ≤ 500 := InvC_get hI 79 15 rfl rfl
  have r2 : 0 ≤ dt 79 11 ∧ dt 79 11 ≤ 510 := InvC_get hI 79 11 rfl rfl
  have r3 : 0 ≤ dt 79 10 ∧ dt 79 10 ≤ 24 := InvC_get hI 79 10 rfl rfl
  have r4 : 0 ≤ dt 79 16 ∧ dt 79 16 ≤ 9999 := InvC_get hI 79 16 rfl rfl
  have cr0 := hid (CUR_R hc (.inr rfl))
  have cd0 := CUR_d (hc)
  have cb0 := hid (CUR_b hc)
  have cv0 := hid (CUR_v hc)
  have ck0 := hid (KZ_lt (i := i) hz)
  have c10 := hc.1
  have r5 : (-2147483648) ≤ dt 79 14 ∧ dt 79 14 ≤ 2147483647 := InvC_get hI 79 14 rfl rfl
  refine go_ifq PM173 (k := 3) (p1 := 24) (p2 := 9) (L' := [some (.inr (.inr (some 79))), none]) (st' := []) (w' := (SH, dt)) rfl (c_eq (a := dt 79 14) (b := 7) (by first | exact bnd r5 (by decide) (by decide) | exact ⟨by fail, by fail⟩) ⟨by decide, by decide⟩) (fun c6 => ?_) (fun c6 => ?_)
  · skip
    refine go_ifq PM173 (k := 3) (p1 := 39) (p2 := 33) (L' := [some (.inr (.inr (some 79))), none]) (st' := []) (w' := (SH, dt)) rfl (c_ne (a := dt 79 10) (b := 16) (by first | exact bnd r3 (by decide) (by decide) | exact ⟨by fail, by fail⟩) ⟨by decide, by decide⟩) (fun c7 => ?_) (fun c7 => ?_)
    · skip
      have qc7 : dt 79 10 ≤ 15 := by omega
      replace c7 := hid c7
      have u2_ := hid (And.intro (unhid cr0) (And.intro (unhid cb0) (And.intro (unhid cv0) (And.intro (unhid ck0) (unhid c7)))))
      refine go_ifq PM173 (k := 3) (p1 := 52) (p2 := 48) (L' := [some (.inr (.inr (some 79))), none]) (st' := []) (w' := (SH, dt)) rfl (c_ne (a := dt 79 14) (b := 7) (by first | exact bnd r5 (by decide) (by decide) | exact ⟨by fail, by fail⟩) ⟨by decide, by decide⟩) (fun c8 => ?_) (fun c8 => ?_)
      · skip
        replace c8 := hid c8
        refine go_toq PM173 (k := 4) (pc' := 56) (L' := [some (.inr (.inr (some 79))), some (.inl 0)]) (st' := [.inl 0, .inr (.inr (some 79))]) (w' := (SH, dt)) rfl ?_
        have hI9 : InvC (u2 dt 79 20 0) := InvC_u2 hI (lo := 0) (hi := 8) rfl rfl rfl (by decide) (by decide)
        have hF10 : Fr [79, 83, 84] dt (u2 dt 79 20 0) := Fr_u2 hF (by decide)
        have w11 : (u2 dt 79 20 0) 79 2 = dt 79 2 := rfl
        have w12 : (u2 dt 79 20 0) 79 9 = dt 79 9 := rfl
        have w13 : (u2 dt 79 20 0) 79 10 = dt 79 10 := rfl
        have w14 : (u2 dt 79 20 0) 79 11 = dt 79 11 := rfl
        have w15 : (u2 dt 79 20 0) 79 12 = dt 79 12 := rfl
        have w16 : (u2 dt 79 20 0) 79 13 = dt 79 13 := rfl
        have w17 : (u2 dt 79 20 0) 79 14 = dt 79 14 := rfl
        have w18 : (u2 dt 79 20 0) 79 15 = dt 79 15 := rfl
        have w19 : (u2 dt 79 20 0) 79 16 = dt 79 16 := rfl
        have w20 : (u2 dt 79 20 0) 79 17 = dt 79 17 := rfl
        have w21 : (u2 dt 79 20 0) 79 18 = dt 79 18 := rfl
        have w22 : (u2 dt 79 20 0) 79 20 = 0 := rfl
        have hc23 : CUR 1 b n (u2 dt 79 20 0) i := CUR_sm hc rfl rfl rfl rfl
        have u3_ := hid (And.intro (unhid cr0) (And.intro (unhid cb0) (And.intro (unhid cv0) (And.intro (unhid ck0) (And.intro (unhid c7) (unhid c8))))))
        have bk24 : ∀ j : Nat, (j : Int) < 4 * dt 79 10 → (u2 dt 79 20 0) 83 j = dt 83 j := fun j hj => (u2_ne (by omega)).trans ((fun _ _ => rfl) j hj)
        refine go_smpq PM173 (L' := [some (.inr (.inr (some 79))), some (.inl 0)]) (st' := []) (w' := (SH, (u2 dt 79 20 0))) rfl rfl (s_pf rfl rfl rfl rfl ⟨by decide, by decide⟩) ?_
        refine go_toq PM173 (k := 1) (pc' := 60) (L' := [some (.inr (.inr (some 79))), some (.inl 0)]) (st' := [.inr (.inr (some 79))]) (w' := (SH, (u2 dt 79 20 0))) rfl ?_
        refine go_callq PM173 PM159 (Q' := _) rfl rfl rfl rfl (sp_X6_next0_p1 L xs sio (d + 30) (u2 dt 79 20 0) hI9   (by first | exact True.intro | with_reducible assumption | exact unhid (by with_reducible assumption) | rfl | omega | trivial) (by first | exact True.intro | with_reducible assumption | exact unhid (by with_reducible assumption) | rfl | omega | trivial)) ?_
        rintro _ _ ⟨dt26, rfl, hI27, hF28, h25⟩
        refine ⟨rfl, ?_⟩
        have hF29 : Fr [79, 83, 84] dt dt26 := Fr_tr hF10 hF28 (by decide)
        rcases h25 with ⟨rfl, h25⟩
        obtain ⟨h25_0, h25_1, h25_2, h25_3, h25_4, h25_5, h25_6, h25_7, h25_8⟩ := h25
        have w30 : dt26 79 2 = dt 79 2 := h25_2.trans w11
        have w31 : dt26 79 9 = dt 79 9 := h25_3.trans w12
        have w32 : dt26 79 10 = dt 79 10 := h25_4.trans w13
        have w33 : dt26 79 11 = dt 79 11 := h25_5.trans w14
        have w34 : dt26 79 12 = dt 79 12 := h25_6.trans w15
        have w35 : dt26 79 17 = dt 79 17 := h25_7.trans w20
        have w36 : dt26 79 20 = 0 := h25_8.trans w22
        have hq37 := h25_0
        rw [show (u2 dt 79 20 0) 85 = dt 85 from funext (hF10 85 (by decide)), show (u2 dt 79 20 0) 79 12 = dt 79 12 by first | with_reducible assumption | exact unhid (by with_reducible assumption) | fail, hbb, show (dt 79 12).toNat = n from (congrArg Int.toNat hnn).trans (Int.toNat_natCast n)] at hq37
        have hc38 : CUR 1 b n dt26 (i + 1) := CUR_n hc23 hq37
        have hi39 : i + 1 ≤ t := by (have z_ := unhid u3_; omega)
        have av40 : (u2 dt 79 20 0) 79 15 + 1 ≤ (u2 dt 79 20 0) 79 13 := by (have z_ := unhid u3_; omega)
        have kk_ : KF 1 b n i = 1001 := by (have z_ := unhid u3_; omega)
        have hp41 : (gLF (KF 1 b n) (VF b n) (dt 79 10)) i = (gL1 (KF 1 b n) (VF b n)) (i + 1) := (rfl : (gLF (KF 1 b n) (VF b n) (dt 79 10)) i = (gLF (KF 1 b n) (VF b n) (dt 79 10)) i).trans (by show gLF _ _ _ _ = _; unfold gLF; rw [if_neg (by (have z_ := unhid u3_; omega)), if_neg (by (have z_ := unhid u3_; omega))]; exact gLine_p (by (have z_ := unhid u3_; omega)))
        clear cr0 cb0 cd0 cv0 ck0
        have cr42 := hid (CUR_R hc38 (.inr rfl))
        have cd43 := CUR_d (hc38)
        have cb43 := hid (CUR_b hc38)
        have cv44 := hid (CUR_v hc38)
        have ck45 := hid (KZ_lt (i := (i + 1)) hz)
        have c146 := (hc38).1
        have ci47 := hi39
        have bk48 : ∀ j : Nat, (j : Int) < 4 * dt 79 10 → dt26 83 j = dt 83 j := fun j hj => (hF28 83 (by decide) j).trans (bk24 j hj)
        clear h25_2 w11 h25_3 w12 h25_4 w13 h25_5 w14 h25_6 w15 h25_7 w20 h25_8 w22
        have r49 : 0 ≤ dt26 79 10 ∧ dt26 79 10 ≤ 24 := InvC_get hI27 79 10 rfl rfl
        refine go_toq PM173 (k := 9) (pc' := 86) (L' := [some (.inr (.inr (some 79))), some (.inl 0)]) (st' := [.inl 8, .inl (4 * (dt26 79 10)), .inr (.inr (some 83))]) (w' := (SH, dt26)) rfl ?_
        have hI50 : InvC (u2 dt26 83 ((4 * (dt26 79 10)).toNat) 8) := InvC_u2 hI27 (lo := -2147483648) (hi := 2147483647) rfl rfl rfl (by decide) (by decide)
        have hF51 : Fr [79, 83, 84] dt (u2 dt26 83 ((4 * (dt26 79 10)).toNat) 8) := Fr_u2 hF29 (by decide)
        have w52 : (u2 dt26 83 ((4 * (dt26 79 10)).toNat) 8) 79 2 = dt 79 2 := w30
        have w53 : (u2 dt26 83 ((4 * (dt26 79 10)).toNat) 8) 79 9 = dt 79 9 := w31
        have w54 : (u2 dt26 83 ((4 * (dt26 79 10)).toNat) 8) 79 10 = dt 79 10 := w32
        have w55 : (u2 dt26 83 ((4 * (dt26 79 10)).toNat) 8) 79 11 = dt 79 11 := w33
        have w56 : (u2 dt26 83 ((4 * (dt26 79 10)).toNat) 8) 79 12 = dt 79 12 := w34
        have w57 : (u2 dt26 83 ((4 * (dt26 79 10)).toNat) 8) 79 13 = dt26 79 13 := rfl
        have w58 : (u2 dt26 83 ((4 * (dt26 79 10)).toNat) 8) 79 14 = dt26 79 14 := rfl
        have w59 : (u2 dt26 83 ((4 * (dt26 79 10)).toNat) 8) 79 15 = dt26 79 15 := rfl
        have w60 : (u2 dt26 83 ((4 * (dt26 79 10)).toNat) 8) 79 16 = dt26 79 16 := rfl
        have w61 : (u2 dt26 83 ((4 * (dt26 79 10)).toNat) 8) 79 17 = dt 79 17 := w35
        have w62 : (u2 dt26 83 ((4 * (dt26 79 10)).toNat) 8) 79 18 = dt26 79 18 := rfl
        have w63 : (u2 dt26 83 ((4 * (dt26 79 10)).toNat) 8) 79 20 = 0 := w36
        have hc64 : CUR 1 b n (u2 dt26 83 ((4 * (dt26 79 10)).toNat) 8) (i + 1) := CUR_sm hc38 rfl rfl rfl rfl
        have w65 : (u2 dt26 83 ((4 * (dt26 79 10)).toNat) 8) 83 (4 * (dt 79 10)).toNat = lnR (KF 1 b n) (VF b n) i := by rw [show (4 * (dt 79 10)).toNat = (4 * (dt26 79 10)).toNat by first | with_reducible assumption | exact unhid (by with_reducible assumption) | omega]; exact u2_eq.trans (by first | exact (lnR_p (by omega)).symm | rfl)
        have bk66 : ∀ j : Nat, (j : Int) < 4 * dt 79 10 → (u2 dt26 83 ((4 * (dt26 79 10)).toNat) 8) 83 j = dt 83 j := fun j hj => (u2_ne (by omega)).trans (bk48 j hj)
        refine go_smpq PM173 (L' := [some (.inr (.inr (some 79))), some (.inl 0)]) (st' := []) (w' := (SH, (u2 dt26 83 ((4 * (dt26 79 10)).toNat) 8))) rfl rfl (s_iast (n := 64) rfl ⟨by omega, by omega⟩ ⟨by decide, by decide⟩) ?_
        have r67 : 0 ≤ dt26 79 11 ∧ dt26 79 11 ≤ 510 := InvC_get hI27 79 11 rfl rfl
        refine go_toq PM173 (k := 12) (pc' := 119) (L' := [some (.inr (.inr (some 79))), some (.inl 0)]) (st' := [.inl (dt26 79 11), .inl ((4 * (dt26 79 10)) + 1), .inr (.inr (some 83))]) (w' := (SH, (u2 dt26 83 ((4 * (dt26 79 10)).toNat) 8))) rfl ?_
        have hI68 : InvC (u2 (u2 dt26 83 ((4 * (dt26 79 10)).toNat) 8) 83 (((4 * (dt26 79 10)) + 1).toNat) (dt26 79 11)) := InvC_u2 hI50 (lo := -2147483648) (hi := 2147483647) rfl rfl rfl (by first | exact bnd1 r67 (by decide) | fail) (by first | exact bnd2 r67 (by decide) | fail)
        have hF69 : Fr [79, 83, 84] dt (u2 (u2 dt26 83 ((4 * (dt26 79 10)).toNat) 8) 83 (((4 * (dt26 79 10)) + 1).toNat) (dt26 79 11)) := Fr_u2 hF51 (by decide)
        have w70 : (u2 (u2 dt26 83 ((4 * (dt26 79 10)).toNat) 8) 83 (((4 * (dt26 79 10)) + 1).toNat) (dt26 79 11)) 79 2 = dt 79 2 := w52
        have w71 : (u2 (u2 dt26 83 ((4 * (dt26 79 10)).toNat) 8) 83 (((4 * (dt26 79 10)) + 1).toNat) (dt26 79 11)) 79 9 = dt 79 9 := w53
        have w72 : (u2 (u2 dt26 83 ((4 * (dt26 79 10)).toNat) 8) 83 (((4 * (dt26 79 10)) + 1).toNat) (dt26 79 11)) 79 10 = dt 79 10 := w54
        have w73 : (u2 (u2 dt26 83 ((4 * (dt26 79 10)).toNat) 8) 83 (((4 * (dt26 79 10)) + 1).toNat) (dt26 79 11)) 79 11 = dt 79 11 := w55
        have w74 : (u2 (u2 dt26 83 ((4 * (dt26 79 10)).toNat) 8) 83 (((4 * (dt26 79 10)) + 1).toNat) (dt26 79 11)) 79 12 = dt 79 12 := w56
        have w75 : (u2 (u2 dt26 83 ((4 * (dt26 79 10)).toNat) 8) 83 (((4 * (dt26 79 10)) + 1).toNat) (dt26 79 11)) 79 13 = dt26 79 13 := w57
        have w76 : (u2 (u2 dt26 83 ((4 * (dt26 79 10)).toNat) 8) 83 (((4 * (dt26 79 10)) + 1).toNat) (dt26 79 11)) 79 14 = dt26 79 14 := w58
        have w77 : (u2 (u2 dt26 83 ((4 * (dt26 79 10)).toNat) 8) 83 (((4 * (dt26 79 10)) + 1).toNat) (dt26 79 11)) 79 15 = dt26 79 15 := w59
        have w78 : (u2 (u2 dt26 83 ((4 * (dt26 79 10)).toNat) 8) 83 (((4 * (dt26 79 10)) + 1).toNat) (dt26 79 11)) 79 16 = dt26 79 16 := w60
        have w79 : (u2 (u2 dt26 83 ((4 * (dt26 79 10)).toNat) 8) 83 (((4 * (dt26 79 10)) + 1).toNat) (dt26 79 11)) 79 17 = dt 79 17 := w61
        have w80 : (u2 (u2 dt26 83 ((4 * (dt26 79 10)).toNat) 8) 83 (((4 * (dt26 79 10)) + 1).toNat) (dt26 79 11)) 79 18 = dt26 79 18 := w62
        have w81 : (u2 (u2 dt26 83 ((4 * (dt26 79 10)).toNat) 8) 83 (((4 * (dt26 79 10)) + 1).toNat) (dt26 79 11)) 79 20 = 0 := w63
        clear w52 w53 w54 w55 w56 w57 w58 w59 w60 w61 w62 w63
        have hc82 : CUR 1 b n (u2 (u2 dt26 83 ((4 * (dt26 79 10)).toNat) 8) 83 (((4 * (dt26 79 10)) + 1).toNat) (dt26 79 11)) (i + 1) := CUR_sm hc64 rfl rfl rfl rfl
        have w83 : (u2 (u2 dt26 83 ((4 * (dt26 79 10)).toNat) 8) 83 (((4 * (dt26 79 10)) + 1).toNat) (dt26 79 11)) 83 (4 * (dt 79 10)).toNat = lnR (KF 1 b n) (VF b n) i := (u2_ne (by omega)).trans w65
        have w84 : (u2 (u2 dt26 83 ((4 * (dt26 79 10)).toNat) 8) 83 (((4 * (dt26 79 10)) + 1).toNat) (dt26 79 11)) 83 ((4 * (dt 79 10)) + 1).toNat = dt 79 11 := by rw [show ((4 * (dt 79 10)) + 1).toNat = ((4 * (dt26 79 10)) + 1).toNat by first | with_reducible assumption | exact unhid (by with_reducible assumption) | omega]; exact u2_eq.trans (by omega)
        have bk85 : ∀ j : Nat, (j : Int) < 4 * dt 79 10 → (u2 (u2 dt26 83 ((4 * (dt26 79 10)).toNat) 8) 83 (((4 * (dt26 79 10)) + 1).toNat) (dt26 79 11)) 83 j = dt 83 j := fun j hj => (u2_ne (by omega)).trans (bk66 j hj)
        refine go_smpq PM173 (L' := [some (.inr (.inr (some 79))), some (.inl 0)]) (st' := []) (w' := (SH, (u2 (u2 dt26 83 ((4 * (dt26 79 10)).toNat) 8) 83 (((4 * (dt26 79 10)) + 1).toNat) (dt26 79 11)))) rfl rfl (s_iast (n := 64) rfl ⟨by omega, by omega⟩ (by first | exact bnd r67 (by decide) (by decide) | exact ⟨by fail, by fail⟩)) ?_
        refine go_toq PM173 (k := 1) (pc' := 121) (L' := [some (.inr (.inr (some 79))), some (.inl 0)]) (st' := [.inr (.inr (some 79))]) (w' := (SH, (u2 (u2 dt26 83 ((4 * (dt26 79 10)).toNat) 8) 83 (((4 * (dt26 79 10)) + 1).toNat) (dt26 79 11)))) rfl ?_
        refine go_callq PM173 PM165 (Q' := _) rfl rfl rfl rfl (sp_X6_sumUp_g L xs sio (d + 27) (u2 (u2 dt26 83 ((4 * (dt26 79 10)).toNat) 8) 83 (((4 * (dt26 79 10)) + 1).toNat) (dt26 79 11)) hI68 b n t (i + 1) (by first | exact hbb | (rw [show (u2 (u2 dt26 83 ((4 * (dt26 79 10)).toNat) 8) 83 (((4 * (dt26 79 10)) + 1).toNat) (dt26 79 11)) 85 = dt 85 from funext (hF69 85 (by decide)), show (u2 (u2 dt26 83 ((4 * (dt26 79 10)).toNat) 8) 83 (((4 * (dt26 79 10)) + 1).toNat) (dt26 79 11)) 79 12 = dt 79 12 by first | with_reducible assumption | exact unhid (by with_reducible assumption) | fail]; exact hbb)) (by first | with_reducible assumption | exact unhid (by with_reducible assumption) | exact Eq.trans (by with_reducible assumption) hnn | fail) hz ht hc82 hi39 hn5  (by first | exact True.intro | with_reducible assumption | exact unhid (by with_reducible assumption) | rfl | omega | trivial) (by first | exact True.intro | with_reducible assumption | exact unhid (by with_reducible assumption) | rfl | omega | trivial)) ?_
        rintro _ _ ⟨dt87, rfl, hI88, hF89, h86⟩
        refine ⟨rfl, ?_⟩
        have hF90 : Fr [79, 83, 84] dt dt87 := Fr_tr hF69 hF89 (by decide)
        rcases h86 with ⟨rfl, h86⟩ | ⟨rfl, h86⟩
        · skip
          obtain ⟨h86_0, h86_1, h86_2, h86_3, h86_4⟩ := h86
          have w91 : dt87 79 2 = dt 79 2 := h86_1.trans w70
          have w92 : dt87 79 9 = dt 79 9 := h86_2.trans w71
          have w93 : dt87 79 10 = dt 79 10 := h86_3.trans w72
          have w94 : dt87 79 12 = dt 79 12 := h86_4.trans w74
          have fl95 := RSX_0 h86_0 rfl
          have fe96 : (gLF (KF 1 b n) (VF b n) (dt 79 10)) i = (gE (KF 1 b n) (VF b n)) (i + 1) := hp41.trans ((show (gL1 (KF 1 b n) (VF b n)) (i + 1) = gB ((gE (KF 1 b n) (VF b n)) (i + 1)) (gL2 (KF 1 b n) (VF b n)) by rfl).trans (gB_no fl95.1))
          have w97 : dt87 83 (4 * (dt 79 10)).toNat = lnR (KF 1 b n) (VF b n) i := (hF89 83 (by decide) _).trans w83
          have w98 : dt87 83 ((4 * (dt 79 10)) + 1).toNat = dt 79 11 := (hF89 83 (by decide) _).trans w84
          have bk99 : ∀ j : Nat, (j : Int) < 4 * dt 79 10 → dt87 83 j = dt 83 j := fun j hj => (hF89 83 (by decide) j).trans (bk85 j hj)
          clear h86_1 w70 h86_2 w71 h86_3 w72 h86_4 w74
          refine go_retq PM173 (k := 2) (r := some (.inl 0)) (w1 := (SH, dt87)) rfl ?_
          exact ⟨dt87, rfl, hI88, hF90, (Or.inl ⟨rfl, ⟨by exact RSX_f fe96 fl95 (by first | rfl | with_reducible assumption | exact unhid (by with_reducible assumption) | fail) (by first | rfl | with_reducible assumption | exact unhid (by with_reducible assumption) | fail), by first | exact True.intro | with_reducible assumption | exact unhid (by with_reducible assumption) | rfl | fail | trivial, by first | exact True.intro | with_reducible assumption | exact unhid (by with_reducible assumption) | rfl | fail | trivial, by first | exact True.intro | with_reducible assumption | exact unhid (by with_reducible assumption) | rfl | fail | trivial, by first | exact True.intro | with_reducible assumption | exact unhid (by with_reducible assumption) | rfl | fail | trivial⟩⟩)⟩
        · skip
          obtain ⟨h86_0, h86_1, h86_2, h86_3, h86_4, h86_5, h86_6, h86_7, h86_8, h86_9, h86_10⟩ := h86
          have w100 : dt87 79 2 = dt 79 2 := h86_5.trans w70
          have w101 : dt87 79 9 = dt 79 9 := h86_6.trans w71
          have w102 : dt87 79 10 = dt 79 10 := h86_7.trans w72
          have w103 : dt87 79 12 = dt 79 12 := h86_8.trans w74
          have w104 : dt87 79 17 = dt 79 17 := h86_9.trans w79
          have w105 : dt87 79 20 = 0 := h86_10.trans w81
          obtain ⟨j106, ej107, hc108⟩ := RSX_1 h86_0 (by decide)
          have hp109 : (gLF (KF 1 b n) (VF b n) (dt 79 10)) i = (gL2 (KF 1 b n) (VF b n)) j106 := hp41.trans ((show (gL1 (KF 1 b n) (VF b n)) (i + 1) = gB ((gE (KF 1 b n) (VF b n)) (i + 1)) (gL2 (KF 1 b n) (VF b n)) by rfl).trans (by rw [ej107]; exact gB_0))
          have hi110 : j106 ≤ t := by have z := gE_M (K := (KF 1 b n)) (V := (VF b n)) (i := (i + 1)) hz; rw [ej107] at z; have y := z rfl; simp only at y; omega
          clear cr42 cb43 cd43 cv44 ck45
          have cr111 := hid (CUR_R hc108 (.inr rfl))
          have cd112 := CUR_d (hc108)
          have cb112 := hid (CUR_b hc108)
          have cv113 := hid (CUR_v hc108)
          have ck114 := hid (KZ_lt (i := j106) hz)
          have c1115 := (hc108).1
          have ci116 := hi110
          have u5_ := hid (And.intro (unhid c7) (And.intro (unhid c8) (And.intro (unhid cr111) (And.intro (unhid cb112) (And.intro (unhid cv113) (unhid ck114))))))
          have ls118 : (i + 1) = lnP (KF 1 b n) i := by first | exact (lnP_p (by omega)).symm | (rw [lnP_r (by fail)]; have y_ := congrArg Prod.snd rfl; have w_ := gA_at (K := (KF 1 b n)) (V := (VF b n)) (m := 7) (i := i + 1) (by rw [rfl]); fail)
          have RS117 : RXD dt dt87 (rE (KF 1 b n) (VF b n) (lnP (KF 1 b n) i)) := by rw [← ls118]; exact RXD_l (by omega) (fun j => (u2_ne (by omega)).trans ((u2_ne (by omega)).trans ((hF28 84 (by decide) j).trans (u2_ne (by omega))))) h86_4
          have gj119 : (gE (KF 1 b n) (VF b n) (lnP (KF 1 b n) i)).2 = j106 := by rw [← ls118, ej107]
          have w120 : dt87 83 (4 * (dt 79 10)).toNat = lnR (KF 1 b n) (VF b n) i := (hF89 83 (by decide) _).trans w83
          have w121 : dt87 83 ((4 * (dt 79 10)) + 1).toNat = dt 79 11 := (hF89 83 (by decide) _).trans w84
          have bk122 : ∀ j : Nat, (j : Int) < 4 * dt 79 10 → dt87 83 j = dt 83 j := fun j hj => (hF89 83 (by decide) j).trans (bk85 j hj)
          clear h86_5 w70 h86_6 w71 h86_7 w72 h86_8 w74 h86_9 w79 h86_10 w81
          have r123 : 0 ≤ dt87 79 10 ∧ dt87 79 10 ≤ 24 := InvC_get hI88 79 10 rfl rfl
          have r124 : 0 ≤ dt87 79 11 ∧ dt87 79 11 ≤ 510 := InvC_get hI88 79 11 rfl rfl
          refine go_toq PM173 (k := 11) (pc' := 145) (L' := [some (.inr (.inr (some 79))), some (.inl 0)]) (st' := [.inl (dt87 79 11), .inl ((4 * (dt87 79 10)) + 2), .inr (.inr (some 83))]) (w' := (SH, dt87)) rfl ?_
          have hI125 : InvC (u2 dt87 83 (((4 * (dt87 79 10)) + 2).toNat) (dt87 79 11)) := InvC_u2 hI88 (lo := -2147483648) (hi := 2147483647) rfl rfl rfl (by first | exact bnd1 r124 (by decide) | fail) (by first | exact bnd2 r124 (by decide) | fail)
          have hF126 : Fr [79, 83, 84] dt (u2 dt87 83 (((4 * (dt87 79 10)) + 2).toNat) (dt87 79 11)) := Fr_u2 hF90 (by decide)
          have w127 : (u2 dt87 83 (((4 * (dt87 79 10)) + 2).toNat) (dt87 79 11)) 79 2 = dt 79 2 := w100
          have w128 : (u2 dt87 83 (((4 * (dt87 79 10)) + 2).toNat) (dt87 79 11)) 79 9 = dt 79 9 := w101
          have w129 : (u2 dt87 83 (((4 * (dt87 79 10)) + 2).toNat) (dt87 79 11)) 79 10 = dt 79 10 := w102
          have w130 : (u2 dt87 83 (((4 * (dt87 79 10)) + 2).toNat) (dt87 79 11)) 79 11 = dt87 79 11 := rfl
          have w131 : (u2 dt87 83 (((4 * (dt87 79 10)) + 2).toNat) (dt87 79 11)) 79 12 = dt 79 12 := w103
          have w132 : (u2 dt87 83 (((4 * (dt87 79 10)) + 2).toNat) (dt87 79 11)) 79 13 = dt87 79 13 := rfl
          have w133 : (u2 dt87 83 (((4 * (dt87 79 10)) + 2).toNat) (dt87 79 11)) 79 14 = dt87 79 14 := rfl
          have w134 : (u2 dt87 83 (((4 * (dt87 79 10)) + 2).toNat) (dt87 79 11)) 79 15 = dt87 79 15 := rfl
          have w135 : (u2 dt87 83 (((4 * (dt87 79 10)) + 2).toNat) (dt87 79 11)) 79 16 = dt87 79 16 := rfl
          have w136 : (u2 dt87 83 (((4 * (dt87 79 10)) + 2).toNat) (dt87 79 11)) 79 17 = dt 79 17 := w104
          have w137 : (u2 dt87 83 (((4 * (dt87 79 10)) + 2).toNat) (dt87 79 11)) 79 18 = dt87 79 18 := rfl
          have w138 : (u2 dt87 83 (((4 * (dt87 79 10)) + 2).toNat) (dt87 79 11)) 79 20 = 0 := w105
          have hc139 : CUR 1 b n (u2 dt87 83 (((4 * (dt87 79 10)) + 2).toNat) (dt87 79 11)) j106 := CUR_sm hc108 rfl rfl rfl rfl
          have w140 : (u2 dt87 83 (((4 * (dt87 79 10)) + 2).toNat) (dt87 79 11)) 83 (4 * (dt 79 10)).toNat = lnR (KF 1 b n) (VF b n) i := (u2_ne (by omega)).trans w120
          have w141 : (u2 dt87 83 (((4 * (dt87 79 10)) + 2).toNat) (dt87 79 11)) 83 ((4 * (dt 79 10)) + 1).toNat = dt 79 11 := (u2_ne (by omega)).trans w121
          have w142 : (u2 dt87 83 (((4 * (dt87 79 10)) + 2).toNat) (dt87 79 11)) 83 ((4 * (dt 79 10)) + 2).toNat = dt87 79 11 := by rw [show ((4 * (dt 79 10)) + 2).toNat = ((4 * (dt87 79 10)) + 2).toNat by first | with_reducible assumption | exact unhid (by with_reducible assumption) | omega]; exact u2_eq.trans (by omega)
          have bk143 : ∀ j : Nat, (j : Int) < 4 * dt 79 10 → (u2 dt87 83 (((4 * (dt87 79 10)) + 2).toNat) (dt87 79 11)) 83 j = dt 83 j := fun j hj => (u2_ne (by omega)).trans (bk122 j hj)
          refine go_smpq PM173 (L' := [some (.inr (.inr (some 79))), some (.inl 0)]) (st' := []) (w' := (SH, (u2 dt87 83 (((4 * (dt87 79 10)) + 2).toNat) (dt87 79 11)))) rfl rfl (s_iast (n := 64) rfl ⟨by omega, by omega⟩ (by first | exact bnd r124 (by decide) (by decide) | exact ⟨by fail, by fail⟩)) ?_
          have r144 : (-2147483648) ≤ dt87 79 14 ∧ dt87 79 14 ≤ 2147483647 := InvC_get hI88 79 14 rfl rfl
          refine go_ifq PM173 (k := 3) (p1 := 167) (p2 := 154) (L' := [some (.inr (.inr (some 79))), some (.inl 0)]) (st' := []) (w' := (SH, (u2 dt87 83 (((4 * (dt87 79 10)) + 2).toNat) (dt87 79 11)))) rfl (c_ne (a := dt87 79 14) (b := 3) (by first | exact bnd r144 (by decide) (by decide) | exact ⟨by fail, by fail⟩) ⟨by decide, by decide⟩) (fun c145 => ?_) (fun c145 => ?_)
          · skip
            replace c145 := hid c145
            refine go_toq PM173 (k := 10) (pc' := 183) (L' := [some (.inr (.inr (some 79))), some (.inl 0)]) (st' := [.inl (dt87 79 11), .inl ((4 * (dt87 79 10)) + 3), .inr (.inr (some 83))]) (w' := (SH, (u2 dt87 83 (((4 * (dt87 79 10)) + 2).toNat) (dt87 79 11)))) rfl ?_
            have u6_ := hid (And.intro (unhid c7) (And.intro (unhid c8) (And.intro (unhid cr111) (And.intro (unhid cb112) (And.intro (unhid cv113) (And.intro (unhid ck114) (unhid c145)))))))
            have hI146 : InvC (u2 (u2 dt87 83 (((4 * (dt87 79 10)) + 2).toNat) (dt87 79 11)) 83 (((4 * (dt87 79 10)) + 3).toNat) (dt87 79 11)) := InvC_u2 hI125 (lo := -2147483648) (hi := 2147483647) rfl rfl rfl (by first | exact bnd1 r124 (by decide) | fail) (by first | exact bnd2 r124 (by decide) | fail)
            have hF147 : Fr [79, 83, 84] dt (u2 (u2 dt87 83 (((4 * (dt87 79 10)) + 2).toNat) (dt87 79 11)) 83 (((4 * (dt87 79 10)) + 3).toNat) (dt87 79 11)) := Fr_u2 hF126 (by decide)
            have w148 : (u2 (u2 dt87 83 (((4 * (dt87 79 10)) + 2).toNat) (dt87 79 11)) 83 (((4 * (dt87 79 10)) + 3).toNat) (dt87 79 11)) 79 2 = dt 79 2 := w127
            have w149 : (u2 (u2 dt87 83 (((4 * (dt87 79 10)) + 2).toNat) (dt87 79 11)) 83 (((4 * (dt87 79 10)) + 3).toNat) (dt87 79 11)) 79 9 = dt 79 9 := w128
            have w150 : (u2 (u2 dt87 83 (((4 * (dt87 79 10)) + 2).toNat) (dt87 79 11)) 83 (((4 * (dt87 79 10)) + 3).toNat) (dt87 79 11)) 79 10 = dt 79 10 := w129
            have w151 : (u2 (u2 dt87 83 (((4 * (dt87 79 10)) + 2).toNat) (dt87 79 11)) 83 (((4 * (dt87 79 10)) + 3).toNat) (dt87 79 11)) 79 11 = dt87 79 11 := w130
            have w152 : (u2 (u2 dt87 83 (((4 * (dt87 79 10)) + 2).toNat) (dt87 79 11)) 83 (((4 * (dt87 79 10)) + 3).toNat) (dt87 79 11)) 79 12 = dt 79 12 := w131
            have w153 : (u2 (u2 dt87 83 (((4 * (dt87 79 10)) + 2).toNat) (dt87 79 11)) 83 (((4 * (dt87 79 10)) + 3).toNat) (dt87 79 11)) 79 13 = dt87 79 13 := w132
            have w154 : (u2 (u2 dt87 83 (((4 * (dt87 79 10)) + 2).toNat) (dt87 79 11)) 83 (((4 * (dt87 79 10)) + 3).toNat) (dt87 79 11)) 79 14 = dt87 79 14 := w133
            have w155 : (u2 (u2 dt87 83 (((4 * (dt87 79 10)) + 2).toNat) (dt87 79 11)) 83 (((4 * (dt87 79 10)) + 3).toNat) (dt87 79 11)) 79 15 = dt87 79 15 := w134
            have w156 : (u2 (u2 dt87 83 (((4 * (dt87 79 10)) + 2).toNat) (dt87 79 11)) 83 (((4 * (dt87 79 10)) + 3).toNat) (dt87 79 11)) 79 16 = dt87 79 16 := w135
            have w157 : (u2 (u2 dt87 83 (((4 * (dt87 79 10)) + 2).toNat) (dt87 79 11)) 83 (((4 * (dt87 79 10)) + 3).toNat) (dt87 79 11)) 79 17 = dt 79 17 := w136
            have w158 : (u2 (u2 dt87 83 (((4 * (dt87 79 10)) + 2).toNat) (dt87 79 11)) 83 (((4 * (dt87 79 10)) + 3).toNat) (dt87 79 11)) 79 18 = dt87 79 18 := w137
            have w159 : (u2 (u2 dt87 83 (((4 * (dt87 79 10)) + 2).toNat) (dt87 79 11)) 83 (((4 * (dt87 79 10)) + 3).toNat) (dt87 79 11)) 79 20 = 0 := w138
            clear w127 w128 w129 w130 w131 w132 w133 w134 w135 w136 w137 w138
            have hc160 : CUR 1 b n (u2 (u2 dt87 83 (((4 * (dt87 79 10)) + 2).toNat) (dt87 79 11)) 83 (((4 * (dt87 79 10)) + 3).toNat) (dt87 79 11)) j106 := CUR_sm hc139 rfl rfl rfl rfl
            have w161 : (u2 (u2 dt87 83 (((4 * (dt87 79 10)) + 2).toNat) (dt87 79 11)) 83 (((4 * (dt87 79 10)) + 3).toNat) (dt87 79 11)) 83 (4 * (dt 79 10)).toNat = lnR (KF 1 b n) (VF b n) i := (u2_ne (by omega)).trans w140
            have w162 : (u2 (u2 dt87 83 (((4 * (dt87 79 10)) + 2).toNat) (dt87 79 11)) 83 (((4 * (dt87 79 10)) + 3).toNat) (dt87 79 11)) 83 ((4 * (dt 79 10)) + 1).toNat = dt 79 11 := (u2_ne (by omega)).trans w141
            have w163 : (u2 (u2 dt87 83 (((4 * (dt87 79 10)) + 2).toNat) (dt87 79 11)) 83 (((4 * (dt87 79 10)) + 3).toNat) (dt87 79 11)) 83 ((4 * (dt 79 10)) + 2).toNat = dt87 79 11 := (u2_ne (by omega)).trans w142
            have w164 : (u2 (u2 dt87 83 (((4 * (dt87 79 10)) + 2).toNat) (dt87 79 11)) 83 (((4 * (dt87 79 10)) + 3).toNat) (dt87 79 11)) 83 ((4 * (dt 79 10)) + 3).toNat = dt87 79 11 := by rw [show ((4 * (dt 79 10)) + 3).toNat = ((4 * (dt87 79 10)) + 3).toNat by first | with_reducible assumption | exact unhid (by with_reducible assumption) | omega]; exact u2_eq.trans (by rfl)
            have bk165 : ∀ j : Nat, (j : Int) < 4 * dt 79 10 → (u2 (u2 dt87 83 (((4 * (dt87 79 10)) + 2).toNat) (dt87 79 11)) 83 (((4 * (dt87 79 10)) + 3).toNat) (dt87 79 11)) 83 j = dt 83 j := fun j hj => (u2_ne (by omega)).trans (bk143 j hj)
            refine go_smpq PM173 (L' := [some (.inr (.inr (some 79))), some (.inl 0)]) (st' := []) (w' := (SH, (u2 (u2 dt87 83 (((4 * (dt87 79 10)) + 2).toNat) (dt87 79 11)) 83 (((4 * (dt87 79 10)) + 3).toNat) (dt87 79 11)))) rfl rfl (s_iast (n := 64) rfl ⟨by omega, by omega⟩ (by first | exact bnd r124 (by decide) (by decide) | exact ⟨by fail, by fail⟩)) ?_
            refine go_toq PM173 (k := 2) (pc' := 188) (L' := [some (.inr (.inr (some 79))), some (.inl 0)]) (st' := [.inl 159, .inr (.inr (some 79))]) (w' := (SH, (u2 (u2 dt87 83 (((4 * (dt87 79 10)) + 2).toNat) (dt87 79 11)) 83 (((4 * (dt87 79 10)) + 3).toNat) (dt87 79 11)))) rfl ?_
            refine go_callq PM173 PM161 (Q' := _) rfl rfl rfl rfl (sp_X6_need0_g1 L xs sio (d + 29) (u2 (u2 dt87 83 (((4 * (dt87 79 10)) + 2).toNat) (dt87 79 11)) 83 (((4 * (dt87 79 10)) + 3).toNat) (dt87 79 11)) hI146 b n t j106 (by first | exact hbb | (rw [show (u2 (u2 dt87 83 (((4 * (dt87 79 10)) + 2).toNat) (dt87 79 11)) 83 (((4 * (dt87 79 10)) + 3).toNat) (dt87 79 11)) 85 = dt 85 from funext (hF147 85 (by decide)), show (u2 (u2 dt87 83 (((4 * (dt87 79 10)) + 2).toNat) (dt87 79 11)) 83 (((4 * (dt87 79 10)) + 3).toNat) (dt87 79 11)) 79 12 = dt 79 12 by first | with_reducible assumption | exact unhid (by with_reducible assumption) | fail]; exact hbb)) (by first | with_reducible assumption | exact unhid (by with_reducible assumption) | exact Eq.trans (by with_reducible assumption) hnn | fail) hz ht hc160 hi110 hn5 159 ⟨by decide, by decide⟩ (by first | exact True.intro | with_reducible assumption | exact unhid (by with_reducible assumption) | rfl | omega | trivial)) ?_
            rintro _ _ ⟨dt167, rfl, hI168, hF169, h166⟩
            refine ⟨rfl, ?_⟩
            have hF170 : Fr [79, 83, 84] dt dt167 := Fr_tr hF147 hF169 (by decide)
            rcases h166 with ⟨rfl, h166⟩ | ⟨rfl, h166⟩
            · skip
              obtain ⟨h166_0, h166_1, h166_2, h166_3, h166_4⟩ := h166
              have w171 : dt167 79 2 = dt 79 2 := h166_1.trans w148
              have w172 : dt167 79 9 = dt 79 9 := h166_2.trans w149
              have w173 : dt167 79 10 = dt 79 10 := h166_3.trans w150
              have w174 : dt167 79 12 = dt 79 12 := h166_4.trans w152
              have kk_175 : ¬ KF 1 b n j106 = 1002 := by (have z_ := unhid u6_; omega)
              have fl176 := RSX_0 h166_0 rfl
              have fe177 : (gLF (KF 1 b n) (VF b n) (dt 79 10)) i = (gK (KF 1 b n) (159 - 100)) j106 := hp109.trans ((show (gL2 (KF 1 b n) (VF b n)) j106 = gB ((gK (KF 1 b n) (159 - 100)) j106) gOk by first | exact gB_id.symm | exact gL2_n (by omega)).trans (gB_no fl176.1))
              have w178 : dt167 83 (4 * (dt 79 10)).toNat = lnR (KF 1 b n) (VF b n) i := (hF169 83 (by decide) _).trans w161
              have w179 : dt167 83 ((4 * (dt 79 10)) + 1).toNat = dt 79 11 := (hF169 83 (by decide) _).trans w162
              have w180 : dt167 83 ((4 * (dt 79 10)) + 2).toNat = dt87 79 11 := (hF169 83 (by decide) _).trans w163
              have w181 : dt167 83 ((4 * (dt 79 10)) + 3).toNat = dt87 79 11 := (hF169 83 (by decide) _).trans w164
              have bk182 : ∀ j : Nat, (j : Int) < 4 * dt 79 10 → dt167 83 j = dt 83 j := fun j hj => (hF169 83 (by decide) j).trans (bk165 j hj)
              clear h166_1 w148 h166_2 w149 h166_3 w150 h166_4 w152
              refine go_retq PM173 (k := 0) (r := some (.inl 0)) (w1 := (SH, dt167)) rfl ?_
              exact ⟨dt167, rfl, hI168, hF170, (Or.inl ⟨rfl, ⟨by exact RSX_f fe177 fl176 (by first | rfl | with_reducible assumption | exact unhid (by with_reducible assumption) | fail) (by first | rfl | with_reducible assumption | exact unhid (by with_reducible assumption) | fail), by first | exact True.intro | with_reducible assumption | exact unhid (by with_reducible assumption) | rfl | fail | trivial, by first | exact True.intro | with_reducible assumption | exact unhid (by with_reducible assumption) | rfl | fail | trivial, by first | exact True.intro | with_reducible assumption | exact unhid (by with_reducible assumption) | rfl | fail | trivial, by first | exact True.intro | with_reducible assumption | exact unhid (by with_reducible assumption) | rfl | fail | trivial⟩⟩)⟩
            · skip
              obtain ⟨h166_0, h166_1, h166_2, h166_3, h166_4, h166_5, h166_6, h166_7, h166_8, h166_9⟩ := h166
              have w183 : dt167 79 2 = dt 79 2 := h166_3.trans w148
              have w184 : dt167 79 9 = dt 79 9 := h166_4.trans w149
              have w185 : dt167 79 10 = dt 79 10 := h166_5.trans w150
              have w186 : dt167 79 11 = dt87 79 11 := h166_6.trans w151
              have w187 : dt167 79 12 = dt 79 12 := h166_7.trans w152
              have w188 : dt167 79 17 = dt 79 17 := h166_8.trans w157
              have w189 : dt167 79 20 = 0 := h166_9.trans w159
              have kk_190 : ¬ KF 1 b n j106 = 1002 := by (have z_ := unhid u6_; omega)
              obtain ⟨j191, ej192, hc193⟩ := RSX_1 h166_0 (by decide)
              have hp194 : (gLF (KF 1 b n) (VF b n) (dt 79 10)) i = gOk j191 := hp109.trans ((show (gL2 (KF 1 b n) (VF b n)) j106 = gB ((gK (KF 1 b n) (159 - 100)) j106) gOk by first | exact gB_id.symm | exact gL2_n (by (have z_ := unhid u6_; omega))).trans (by rw [ej192]; exact gB_0))
              have hi195 : j191 ≤ t := by have z := (fun (h : KZ (KF 1 b n) t) => gK_M (K := (KF 1 b n)) (k := 159 - 100) (i := j106) h (by decide)) hz; rw [ej192] at z; have y := z rfl; simp only at y; omega
              clear cr111 cb112 cd112 cv113 ck114
              have cr196 := hid (CUR_R hc193 (.inr rfl))
              have cd197 := CUR_d (hc193)
              have cb197 := hid (CUR_b hc193)
              have cv198 := hid (CUR_v hc193)
              have ck199 := hid (KZ_lt (i := j191) hz)
              have c1200 := (hc193).1
              have ci201 := hi195
              have w202 : dt167 83 (4 * (dt 79 10)).toNat = lnR (KF 1 b n) (VF b n) i := (hF169 83 (by decide) _).trans w161
              have w203 : dt167 83 ((4 * (dt 79 10)) + 1).toNat = dt 79 11 := (hF169 83 (by decide) _).trans w162
              have w204 : dt167 83 ((4 * (dt 79 10)) + 2).toNat = dt87 79 11 := (hF169 83 (by decide) _).trans w163
              have w205 : dt167 83 ((4 * (dt 79 10)) + 3).toNat = dt87 79 11 := (hF169 83 (by decide) _).trans w164
              have bk206 : ∀ j : Nat, (j : Int) < 4 * dt 79 10 → dt167 83 j = dt 83 j := fun j hj => (hF169 83 (by decide) j).trans (bk165 j hj)
              clear h166_3 w148 h166_4 w149 h166_5 w150 h166_6 w151 h166_7 w152 h166_8 w157 h166_9 w159
              refine go_retq PM173 (k := 0) (r := some (.inl 1)) (w1 := (SH, dt167)) rfl ?_
              exact ⟨dt167, rfl, hI168, hF170, (Or.inr ⟨rfl, ⟨by exact RSX_ok (hp194.trans (by rfl)) hc193, by first | exact True.intro | with_reducible assumption | exact unhid (by with_reducible assumption) | rfl | fail | trivial, by first | exact True.intro | with_reducible assumption | exact unhid (by with_reducible assumption) | rfl | omega | trivial, by first | exact True.intro | with_reducible assumption | exact unhid (by with_reducible assumption) | rfl | omega | trivial, by first | exact True.intro | with_reducible assumption | exact unhid (by with_reducible assumption) | rfl | omega | trivial, by exact (InvC_get (by assumption) 79 15 rfl rfl).2, by first | exact LXR_m RS117 hI (by fail) (by fail) (fun j => by first | rfl | exact (hF169 84 (by decide) j).trans ((u2_ne (by fail)).trans (u2_ne (by fail)))) w202 w203 w204 (w205.trans (by fail)) | exact LXR_m RS117 (show RXD dt87 dt87 (rLb (KF 1 b n) (VF b n) (gE (KF 1 b n) (VF b n) (lnP (KF 1 b n) i)).2) from by rw [gj119, rLb_0 (by omega)]; exact RXD_sm rfl (fun _ => rfl)) (by omega) (by omega) (fun j => by first | rfl | exact (hF169 84 (by decide) j).trans ((u2_ne (by omega)).trans (u2_ne (by omega)))) w202 w203 w204 (w205.trans (by omega)), by exact bk206, by exact LXR_84 RS117 (by omega) (by first | exact hI | exact (show RXD dt87 dt87 (rLb (KF 1 b n) (VF b n) (gE (KF 1 b n) (VF b n) (lnP (KF 1 b n) i)).2) from by rw [gj119, rLb_0 (by omega)]; exact RXD_sm rfl (fun _ => rfl))) (fun j => by first | rfl | exact (hF169 84 (by decide) j).trans ((u2_ne (by omega)).trans (u2_ne (by omega)))), by first | exact True.intro | with_reducible assumption | exact unhid (by with_reducible assumption) | rfl | fail | trivial, by first | exact True.intro | with_reducible assumption | exact unhid (by with_reducible assumption) | rfl | fail | trivial, by first | exact True.intro | with_reducible assumption | exact unhid (by with_reducible assumption) | rfl | fail | trivial, by first | exact True.intro | with_reducible assumption | exact unhid (by with_reducible assumption) | rfl | fail | trivial, by first | exact True.intro | with_reducible assumption | exact unhid (by with_reducible assumption) | rfl | fail | trivial⟩⟩)⟩
          · skip
            refine go_toq PM173 (k := 1) (pc' := 155) (L' := [some (.inr (.inr (some 79))), some (.inl 0)]) (st' := [.inr (.inr (some 79))]) (w' := (SH, (u2 dt87 83 (((4 * (dt87 79 10)) + 2).toNat) (dt87 79 11)))) rfl ?_
            refine go_callq PM173 PM159 (Q' := _) rfl rfl rfl rfl (sp_X6_next0_p1 L xs sio (d + 30) (u2 dt87 83 (((4 * (dt87 79 10)) + 2).toNat) (dt87 79 11)) hI125   (by first | exact True.intro | with_reducible assumption | exact unhid (by with_reducible assumption) | rfl | omega | trivial) (by first | exact True.intro | with_reducible assumption | exact unhid (by with_reducible assumption) | rfl | omega | trivial)) ?_
            rintro _ _ ⟨dt208, rfl, hI209, hF210, h207⟩
            refine ⟨rfl, ?_⟩
            have hF211 : Fr [79, 83, 84] dt dt208 := Fr_tr hF126 hF210 (by decide)
            rcases h207 with ⟨rfl, h207⟩
            obtain ⟨h207_0, h207_1, h207_2, h207_3, h207_4, h207_5, h207_6, h207_7, h207_8⟩ := h207
            have w212 : dt208 79 2 = dt 79 2 := h207_2.trans w127
            have w213 : dt208 79 9 = dt 79 9 := h207_3.trans w128
            have w214 : dt208 79 10 = dt 79 10 := h207_4.trans w129
            have w215 : dt208 79 11 = dt87 79 11 := h207_5.trans w130
            have w216 : dt208 79 12 = dt 79 12 := h207_6.trans w131
            have w217 : dt208 79 17 = dt 79 17 := h207_7.trans w136
            have w218 : dt208 79 20 = 0 := h207_8.trans w138
            have hq219 := h207_0
            rw [show (u2 dt87 83 (((4 * (dt87 79 10)) + 2).toNat) (dt87 79 11)) 85 = dt 85 from funext (hF126 85 (by decide)), show (u2 dt87 83 (((4 * (dt87 79 10)) + 2).toNat) (dt87 79 11)) 79 12 = dt 79 12 by first | with_reducible assumption | exact unhid (by with_reducible assumption) | fail, hbb, show (dt 79 12).toNat = n from (congrArg Int.toNat hnn).trans (Int.toNat_natCast n)] at hq219
            have hc220 : CUR 1 b n dt208 (j106 + 1) := CUR_n hc139 hq219
            have hi221 : j106 + 1 ≤ t := by (have z_ := unhid u5_; omega)
            have av222 : (u2 dt87 83 (((4 * (dt87 79 10)) + 2).toNat) (dt87 79 11)) 79 15 + 1 ≤ (u2 dt87 83 (((4 * (dt87 79 10)) + 2).toNat) (dt87 79 11)) 79 13 := by (have z_ := unhid u5_; omega)
            have kk_223 : KF 1 b n j106 = 1002 := by (have z_ := unhid u5_; omega)
            have hp224 : (gLF (KF 1 b n) (VF b n) (dt 79 10)) i = (fun i => gB (gB_ (KF 1 b n) (VF b n) 8 i) (gK (KF 1 b n) 59)) (j106 + 1) := hp109.trans (by exact gL2_w (by (have z_ := unhid u5_; omega)))
            clear cr111 cb112 cd112 cv113 ck114
            have cr225 := hid (CUR_R hc220 (.inr rfl))
            have cd226 := CUR_d (hc220)
            have cb226 := hid (CUR_b hc220)
            have cv227 := hid (CUR_v hc220)
            have ck228 := hid (KZ_lt (i := (j106 + 1)) hz)
            have c1229 := (hc220).1
            have ci230 := hi221
            have w231 : dt208 83 (4 * (dt 79 10)).toNat = lnR (KF 1 b n) (VF b n) i := (hF210 83 (by decide) _).trans w140
            have w232 : dt208 83 ((4 * (dt 79 10)) + 1).toNat = dt 79 11 := (hF210 83 (by decide) _).trans w141
            have w233 : dt208 83 ((4 * (dt 79 10)) + 2).toNat = dt87 79 11 := (hF210 83 (by decide) _).trans w142
            have bk234 : ∀ j : Nat, (j : Int) < 4 * dt 79 10 → dt208 83 j = dt 83 j := fun j hj => (hF210 83 (by decide) j).trans (bk143 j hj)
            clear h207_2 w127 h207_3 w128 h207_4 w129 h207_5 w130 h207_6 w131 h207_7 w136 h207_8 w138
            refine go_toq PM173 (k := 1) (pc' := 159) (L' := [some (.inr (.inr (some 79))), some (.inl 0)]) (st' := [.inr (.inr (some 79))]) (w' := (SH, dt208)) rfl ?_
            refine go_callq PM173 PM168 (Q' := _) rfl rfl rfl rfl (sp_X6_any_g0 L xs sio (d + 0) dt208 hI209 b n t (j106 + 1) (by first | exact hbb | (rw [show dt208 85 = dt 85 from funext (hF211 85 (by decide)), show dt208 79 12 = dt 79 12 by first | with_reducible assumption | exact unhid (by with_reducible assumption) | fail]; exact hbb)) (by first | with_reducible assumption | exact unhid (by with_reducible assumption) | exact Eq.trans (by with_reducible assumption) hnn | fail) hz ht hc220 hi221 hn5  (by first | exact True.intro | with_reducible assumption | exact unhid (by with_reducible assumption) | rfl | omega | trivial) (by first | exact True.intro | with_reducible assumption | exact unhid (by with_reducible assumption) | rfl | omega | trivial) (by first | exact True.intro | with_reducible assumption | exact unhid (by with_reducible assumption) | rfl | fail | trivial)) ?_
            rintro _ _ ⟨dt236, rfl, hI237, hF238, h235⟩
            refine ⟨rfl, ?_⟩
            have hF239 : Fr [79, 83, 84] dt dt236 := Fr_tr hF211 hF238 (by decide)
            rcases h235 with ⟨rfl, h235⟩ | ⟨rfl, h235⟩
            · skip
              obtain ⟨h235_0, h235_1, h235_2, h235_3, h235_4⟩ := h235
              have w240 : dt236 79 2 = dt 79 2 := h235_1.trans w212
              have w241 : dt236 79 9 = dt 79 9 := h235_2.trans w213
              have w242 : dt236 79 10 = dt 79 10 := h235_3.trans w214
              have w243 : dt236 79 12 = dt 79 12 := h235_4.trans w216
              have fl244 := RSX_0 h235_0 rfl
              have fe245 : (gLF (KF 1 b n) (VF b n) (dt 79 10)) i = (gB_ (KF 1 b n) (VF b n) 8) (j106 + 1) := hp224.trans ((show (fun i => gB (gB_ (KF 1 b n) (VF b n) 8 i) (gK (KF 1 b n) 59)) (j106 + 1) = gB ((gB_ (KF 1 b n) (VF b n) 8) (j106 + 1)) (gK (KF 1 b n) 59) by rfl).trans (gB_no fl244.1))
              have w246 : dt236 83 (4 * (dt 79 10)).toNat = lnR (KF 1 b n) (VF b n) i := (hF238 83 (by decide) _).trans w231
              have w247 : dt236 83 ((4 * (dt 79 10)) + 1).toNat = dt 79 11 := (hF238 83 (by decide) _).trans w232
              have w248 : dt236 83 ((4 * (dt 79 10)) + 2).toNat = dt87 79 11 := (hF238 83 (by decide) _).trans w233
              have bk249 : ∀ j : Nat, (j : Int) < 4 * dt 79 10 → dt236 83 j = dt 83 j := fun j hj => (hF238 83 (by decide) j).trans (bk234 j hj)
              clear h235_1 w212 h235_2 w213 h235_3 h235_4 w216
              refine go_retq PM173 (k := 2) (r := some (.inl 0)) (w1 := (SH, dt236)) rfl ?_
              exact ⟨dt236, rfl, hI237, hF239, (Or.inl ⟨rfl, ⟨by exact RSX_f fe245 fl244 (by first | rfl | with_reducible assumption | exact unhid (by with_reducible assumption) | fail) (by first | rfl | with_reducible assumption | exact unhid (by with_reducible assumption) | fail), by first | exact True.intro | with_reducible assumption | exact unhid (by with_reducible assumption) | rfl | fail | trivial, by first | exact True.intro | with_reducible assumption | exact unhid (by with_reducible assumption) | rfl | fail | trivial, by first | exact True.intro | with_reducible assumption | exact unhid (by with_reducible assumption) | rfl | fail | trivial, by first | exact True.intro | with_reducible assumption | exact unhid (by with_reducible assumption) | rfl | fail | trivial⟩⟩)⟩
            · skip
              obtain ⟨h235_0, h235_1, h235_2, h235_3, h235_4, h235_5, h235_6, h235_7, h235_8, h235_9, h235_10⟩ := h235
              have w250 : dt236 79 2 = dt 79 2 := h235_5.trans w212
              have w251 : dt236 79 9 = dt 79 9 := h235_6.trans w213
              have w252 : dt236 79 10 = dt 79 10 := h235_7.trans w214
              have w253 : dt236 79 12 = dt 79 12 := h235_8.trans w216
              have w254 : dt236 79 17 = dt 79 17 := h235_9.trans w217
              have w255 : dt236 79 20 = 0 := h235_10.trans w218
              obtain ⟨j256, ej257, hc258⟩ := RSX_1 h235_0 (by decide)
              have hp259 : (gLF (KF 1 b n) (VF b n) (dt 79 10)) i = (gK (KF 1 b n) 59) j256 := hp224.trans ((show (fun i => gB (gB_ (KF 1 b n) (VF b n) 8 i) (gK (KF 1 b n) 59)) (j106 + 1) = gB ((gB_ (KF 1 b n) (VF b n) 8) (j106 + 1)) (gK (KF 1 b n) 59) by rfl).trans (by rw [ej257]; exact gB_0))
              have hi260 : j256 ≤ t := by have z := gB__M (K := (KF 1 b n)) (V := (VF b n)) (d := 8) (i := (j106 + 1)) hz; rw [ej257] at z; have y := z rfl; simp only at y; omega
              clear cr225 cb226 cd226 cv227 ck228
              have cr261 := hid (CUR_R hc258 (.inr rfl))
              have cd262 := CUR_d (hc258)
              have cb262 := hid (CUR_b hc258)
              have cv263 := hid (CUR_v hc258)
              have ck264 := hid (KZ_lt (i := j256) hz)
              have c1265 := (hc258).1
              have ci266 := hi260
              have u9_ := hid (And.intro (unhid c7) (And.intro (unhid c8) (And.intro (unhid cr261) (And.intro (unhid cb262) (And.intro (unhid cv263) (unhid ck264))))))
              have RB267 : RXD dt87 dt236 (rLb (KF 1 b n) (VF b n) (gE (KF 1 b n) (VF b n) (lnP (KF 1 b n) i)).2) := by rw [gj119, rLb_1 (by omega)]; exact RXD_l (by omega) (fun j => (hF210 84 (by decide) j).trans (u2_ne (by omega))) h235_4
              have w268 : dt236 83 (4 * (dt 79 10)).toNat = lnR (KF 1 b n) (VF b n) i := (hF238 83 (by decide) _).trans w231
              have w269 : dt236 83 ((4 * (dt 79 10)) + 1).toNat = dt 79 11 := (hF238 83 (by decide) _).trans w232
              have w270 : dt236 83 ((4 * (dt 79 10)) + 2).toNat = dt87 79 11 := (hF238 83 (by decide) _).trans w233
              have bk271 : ∀ j : Nat, (j : Int) < 4 * dt 79 10 → dt236 83 j = dt 83 j := fun j hj => (hF238 83 (by decide) j).trans (bk234 j hj)
              clear h235_5 w212 h235_6 w213 h235_7 h235_8 w216 h235_9 w217 h235_10 w218
              have r272 : 0 ≤ dt236 79 10 ∧ dt236 79 10 ≤ 24 := InvC_get hI237 79 10 rfl rfl
              have r273 : 0 ≤ dt236 79 11 ∧ dt236 79 11 ≤ 510 := InvC_get hI237 79 11 rfl rfl
              refine go_toq PM173 (k := 11) (pc' := 183) (L' := [some (.inr (.inr (some 79))), some (.inl 0)]) (st' := [.inl (dt236 79 11), .inl ((4 * (dt236 79 10)) + 3), .inr (.inr (some 83))]) (w' := (SH, dt236)) rfl ?_
              have hI274 : InvC (u2 dt236 83 (((4 * (dt236 79 10)) + 3).toNat) (dt236 79 11)) := InvC_u2 hI237 (lo := -2147483648) (hi := 2147483647) rfl rfl rfl (by first | exact bnd1 r273 (by decide) | fail) (by first | exact bnd2 r273 (by decide) | fail)
              have hF275 : Fr [79, 83, 84] dt (u2 dt236 83 (((4 * (dt236 79 10)) + 3).toNat) (dt236 79 11)) := Fr_u2 hF239 (by decide)
              have w276 : (u2 dt236 83 (((4 * (dt236 79 10)) + 3).toNat) (dt236 79 11)) 79 2 = dt 79 2 := w250
              have w277 : (u2 dt236 83 (((4 * (dt236 79 10)) + 3).toNat) (dt236 79 11)) 79 9 = dt 79 9 := w251
              have w278 : (u2 dt236 83 (((4 * (dt236 79 10)) + 3).toNat) (dt236 79 11)) 79 10 = dt 79 10 := w252
              have w279 : (u2 dt236 83 (((4 * (dt236 79 10)) + 3).toNat) (dt236 79 11)) 79 11 = dt236 79 11 := rfl
              have w280 : (u2 dt236 83 (((4 * (dt236 79 10)) + 3).toNat) (dt236 79 11)) 79 12 = dt 79 12 := w253
              have w281 : (u2 dt236 83 (((4 * (dt236 79 10)) + 3).toNat) (dt236 79 11)) 79 13 = dt236 79 13 := rfl
              have w282 : (u2 dt236 83 (((4 * (dt236 79 10)) + 3).toNat) (dt236 79 11)) 79 14 = dt236 79 14 := rfl
              have w283 : (u2 dt236 83 (((4 * (dt236 79 10)) + 3).toNat) (dt236 79 11)) 79 15 = dt236 79 15 := rfl
              have w284 : (u2 dt236 83 (((4 * (dt236 79 10)) + 3).toNat) (dt236 79 11)) 79 16 = dt236 79 16 := rfl
              have w285 : (u2 dt236 83 (((4 * (dt236 79 10)) + 3).toNat) (dt236 79 11)) 79 17 = dt 79 17 := w254
              have w286 : (u2 dt236 83 (((4 * (dt236 79 10)) + 3).toNat) (dt236 79 11)) 79 18 = dt236 79 18 := rfl
              have w287 : (u2 dt236 83 (((4 * (dt236 79 10)) + 3).toNat) (dt236 79 11)) 79 20 = 0 := w255
              have hc288 : CUR 1 b n (u2 dt236 83 (((4 * (dt236 79 10)) + 3).toNat) (dt236 79 11)) j256 := CUR_sm hc258 rfl rfl rfl rfl
              have w289 : (u2 dt236 83 (((4 * (dt236 79 10)) + 3).toNat) (dt236 79 11)) 83 (4 * (dt 79 10)).toNat = lnR (KF 1 b n) (VF b n) i := (u2_ne (by omega)).trans w268
              have w290 : (u2 dt236 83 (((4 * (dt236 79 10)) + 3).toNat) (dt236 79 11)) 83 ((4 * (dt 79 10)) + 1).toNat = dt 79 11 := (u2_ne (by omega)).trans w269
              have w291 : (u2 dt236 83 (((4 * (dt236 79 10)) + 3).toNat) (dt236 79 11)) 83 ((4 * (dt 79 10)) + 2).toNat = dt87 79 11 := (u2_ne (by omega)).trans w270
              have w292 : (u2 dt236 83 (((4 * (dt236 79 10)) + 3).toNat) (dt236 79 11)) 83 ((4 * (dt 79 10)) + 3).toNat = dt236 79 11 := by rw [show ((4 * (dt 79 10)) + 3).toNat = ((4 * (dt236 79 10)) + 3).toNat by first | with_reducible assumption | exact unhid (by with_reducible assumption) | omega]; exact u2_eq.trans (by rfl)
              have bk293 : ∀ j : Nat, (j : Int) < 4 * dt 79 10 → (u2 dt236 83 (((4 * (dt236 79 10)) + 3).toNat) (dt236 79 11)) 83 j = dt 83 j := fun j hj => (u2_ne (by omega)).trans (bk271 j hj)
              refine go_smpq PM173 (L' := [some (.inr (.inr (some 79))), some (.inl 0)]) (st' := []) (w' := (SH, (u2 dt236 83 (((4 * (dt236 79 10)) + 3).toNat) (dt236 79 11)))) rfl rfl (s_iast (n := 64) rfl ⟨by omega, by omega⟩ (by first | exact bnd r273 (by decide) (by decide) | exact ⟨by fail, by fail⟩)) ?_
              refine go_toq PM173 (k := 2) (pc' := 188) (L' := [some (.inr (.inr (some 79))), some (.inl 0)]) (st' := [.inl 159, .inr (.inr (some 79))]) (w' := (SH, (u2 dt236 83 (((4 * (dt236 79 10)) + 3).toNat) (dt236 79 11)))) rfl ?_
              refine go_callq PM173 PM161 (Q' := _) rfl rfl rfl rfl (sp_X6_need0_g1 L xs sio (d + 29) (u2 dt236 83 (((4 * (dt236 79 10)) + 3).toNat) (dt236 79 11)) hI274 b n t j256 (by first | exact hbb | (rw [show (u2 dt236 83 (((4 * (dt236 79 10)) + 3).toNat) (dt236 79 11)) 85 = dt 85 from funext (hF275 85 (by decide)), show (u2 dt236 83 (((4 * (dt236 79 10)) + 3).toNat) (dt236 79 11)) 79 12 = dt 79 12 by first | with_reducible assumption | exact unhid (by with_reducible assumption) | fail]; exact hbb)) (by first | with_reducible assumption | exact unhid (by with_reducible assumption) | exact Eq.trans (by with_reducible assumption) hnn | fail) hz ht hc288 hi260 hn5 159 ⟨by decide, by decide⟩ (by first | exact True.intro | with_reducible assumption | exact unhid (by with_reducible assumption) | rfl | omega | trivial)) ?_
              rintro _ _ ⟨dt295, rfl, hI296, hF297, h294⟩
              refine ⟨rfl, ?_⟩
              have hF298 : Fr [79, 83, 84] dt dt295 := Fr_tr hF275 hF297 (by decide)
              rcases h294 with ⟨rfl, h294⟩ | ⟨rfl, h294⟩
              · skip
                obtain ⟨h294_0, h294_1, h294_2, h294_3, h294_4⟩ := h294
                have w299 : dt295 79 2 = dt 79 2 := h294_1.trans w276
                have w300 : dt295 79 9 = dt 79 9 := h294_2.trans w277
                have w301 : dt295 79 10 = dt 79 10 := h294_3.trans w278
                have w302 : dt295 79 12 = dt 79 12 := h294_4.trans w280
                have fl303 := RSX_0 h294_0 rfl
                have fe304 : (gLF (KF 1 b n) (VF b n) (dt 79 10)) i = (gK (KF 1 b n) (159 - 100)) j256 := hp259.trans ((show (gK (KF 1 b n) 59) j256 = gB ((gK (KF 1 b n) (159 - 100)) j256) gOk by first | exact gB_id.symm | exact gL2_n (by fail)).trans (gB_no fl303.1))
                have w305 : dt295 83 (4 * (dt 79 10)).toNat = lnR (KF 1 b n) (VF b n) i := (hF297 83 (by decide) _).trans w289
                have w306 : dt295 83 ((4 * (dt 79 10)) + 1).toNat = dt 79 11 := (hF297 83 (by decide) _).trans w290
                have w307 : dt295 83 ((4 * (dt 79 10)) + 2).toNat = dt87 79 11 := (hF297 83 (by decide) _).trans w291
                have w308 : dt295 83 ((4 * (dt 79 10)) + 3).toNat = dt236 79 11 := (hF297 83 (by decide) _).trans w292
                have bk309 : ∀ j : Nat, (j : Int) < 4 * dt 79 10 → dt295 83 j = dt 83 j := fun j hj => (hF297 83 (by decide) j).trans (bk293 j hj)
                clear h294_1 w276 h294_2 w277 h294_3 w278 h294_4 w280
                refine go_retq PM173 (k := 0) (r := some (.inl 0)) (w1 := (SH, dt295)) rfl ?_
                exact ⟨dt295, rfl, hI296, hF298, (Or.inl ⟨rfl, ⟨by exact RSX_f fe304 fl303 (by first | rfl | with_reducible assumption | exact unhid (by with_reducible assumption) | fail) (by first | rfl | with_reducible assumption | exact unhid (by with_reducible assumption) | fail), by first | exact True.intro | with_reducible assumption | exact unhid (by with_reducible assumption) | rfl | fail | trivial, by first | exact True.intro | with_reducible assumption | exact unhid (by with_reducible assumption) | rfl | fail | trivial, by first | exact True.intro | with_reducible assumption | exact unhid (by with_reducible assumption) | rfl | fail | trivial, by first | exact True.intro | with_reducible assumption | exact unhid (by with_reducible assumption) | rfl | fail | trivial⟩⟩)⟩
              · skip
                obtain ⟨h294_0, h294_1, h294_2, h294_3, h294_4, h294_5, h294_6, h294_7, h294_8, h294_9⟩ := h294
                have w310 : dt295 79 2 = dt 79 2 := h294_3.trans w276
                have w311 : dt295 79 9 = dt 79 9 := h294_4.trans w277
                have w312 : dt295 79 10 = dt 79 10 := h294_5.trans w278
                have w313 : dt295 79 11 = dt236 79 11 := h294_6.trans w279
                have w314 : dt295 79 12 = dt 79 12 := h294_7.trans w280
                have w315 : dt295 79 17 = dt 79 17 := h294_8.trans w285
                have w316 : dt295 79 20 = 0 := h294_9.trans w287
                obtain ⟨j317, ej318, hc319⟩ := RSX_1 h294_0 (by decide)
                have hp320 : (gLF (KF 1 b n) (VF b n) (dt 79 10)) i = gOk j317 := hp259.trans ((show (gK (KF 1 b n) 59) j256 = gB ((gK (KF 1 b n) (159 - 100)) j256) gOk by first | exact gB_id.symm | exact gL2_n (by (have z_ := unhid u9_; fail))).trans (by rw [ej318]; exact gB_0))
                have hi321 : j317 ≤ t := by have z := (fun (h : KZ (KF 1 b n) t) => gK_M (K := (KF 1 b n)) (k := 159 - 100) (i := j256) h (by decide)) hz; rw [ej318] at z; have y := z rfl; simp only at y; omega
                clear cr261 cb262 cd262 cv263 ck264
                have cr322 := hid (CUR_R hc319 (.inr rfl))
                have cd323 := CUR_d (hc319)
                have cb323 := hid (CUR_b hc319)
                have cv324 := hid (CUR_v hc319)
                have ck325 := hid (KZ_lt (i := j317) hz)
                have c1326 := (hc319).1
                have ci327 := hi321
                have w328 : dt295 83 (4 * (dt 79 10)).toNat = lnR (KF 1 b n) (VF b n) i := (hF297 83 (by decide) _).trans w289
                have w329 : dt295 83 ((4 * (dt 79 10)) + 1).toNat = dt 79 11 := (hF297 83 (by decide) _).trans w290
                have w330 : dt295 83 ((4 * (dt 79 10)) + 2).toNat = dt87 79 11 := (hF297 83 (by decide) _).trans w291
                have w331 : dt295 83 ((4 * (dt 79 10)) + 3).toNat = dt236 79 11 := (hF297 83 (by decide) _).trans w292
                have bk332 : ∀ j : Nat, (j : Int) < 4 * dt 79 10 → dt295 83 j = dt 83 j := fun j hj => (hF297 83 (by decide) j).trans (bk293 j hj)
                clear h294_3 w276 h294_4 w277 h294_5 w278 h294_6 w279 h294_7 w280 h294_8 w285 h294_9 w287
                refine go_retq PM173 (k := 0) (r := some (.inl 1)) (w1 := (SH, dt295)) rfl ?_
                exact ⟨dt295, rfl, hI296, hF298, (Or.inr ⟨rfl, ⟨by exact RSX_ok (hp320.trans (by rfl)) hc319, by first | exact True.intro | with_reducible assumption | exact unhid (by with_reducible assumption) | rfl | fail | trivial, by first | exact True.intro | with_reducible assumption | exact unhid (by with_reducible assumption) | rfl | omega | trivial, by first | exact True.intro | with_reducible assumption | exact unhid (by with_reducible assumption) | rfl | omega | trivial, by first | exact True.intro | with_reducible assumption | exact unhid (by with_reducible assumption) | rfl | omega | trivial, by exact (InvC_get (by assumption) 79 15 rfl rfl).2, by first | exact LXR_m RS117 RB267 (by omega) (by omega) (fun j => by first | rfl | exact (hF297 84 (by decide) j).trans (u2_ne (by omega))) w328 w329 w330 (w331.trans (by omega)) | exact LXR_m RS117 (show RXD dt87 dt87 (rLb (KF 1 b n) (VF b n) (gE (KF 1 b n) (VF b n) (lnP (KF 1 b n) i)).2) from by rw [gj119, rLb_0 (by fail)]; exact RXD_sm rfl (fun _ => rfl)) (by fail) (by fail) (fun j => by first | rfl | exact (hF297 84 (by decide) j).trans (u2_ne (by fail))) w328 w329 w330 (w331.trans (by fail)), by exact bk332, by exact LXR_84 RS117 (by omega) (by first | exact RB267 | exact (show RXD dt87 dt87 (rLb (KF 1 b n) (VF b n) (gE (KF 1 b n) (VF b n) (lnP (KF 1 b n) i)).2) from by rw [gj119, rLb_0 (by fail)]; exact RXD_sm rfl (fun _ => rfl))) (fun j => by first | rfl | exact (hF297 84 (by decide) j).trans (u2_ne (by omega))), by first | exact True.intro | with_reducible assumption | exact unhid (by with_reducible assumption) | rfl | fail | trivial, by first | exact True.intro | with_reducible assumption | exact unhid (by with_reducible assumption) | rfl | fail | trivial, by first | exact True.intro | with_reducible assumption | exact unhid (by with_reducible assumption) | rfl | fail | trivial, by first | exact True.intro | with_reducible assumption | exact unhid (by with_reducible assumption) | rfl | fail | trivial, by first | exact True.intro | with_reducible assumption | exact unhid (by with_reducible assumption) | rfl | fail | trivial⟩⟩)⟩
      · skip
        refine go_toq PM173 (k := 5) (pc' := 56) (L' := [some (.inr (.inr (some 79))), some (.inl 1)]) (st' := [.inl 0, .inr (.inr (some 79))]) (w' := (SH, dt)) rfl ?_
        have hI333 : InvC (u2 dt 79 20 0) := InvC_u2 hI (lo := 0) (hi := 8) rfl rfl rfl (by decide) (by decide)
        have hF334 : Fr [79, 83, 84] dt (u2 dt 79 20 0) := Fr_u2 hF (by decide)
        have w335 : (u2 dt 79 20 0) 79 2 = dt 79 2 := rfl
        have w336 : (u2 dt 79 20 0) 79 9 = dt 79 9 := rfl
        have w337 : (u2 dt 79 20 0) 79 10 = dt 79 10 := rfl
        have w338 : (u2 dt 79 20 0) 79 11 = dt 79 11 := rfl
        have w339 : (u2 dt 79 20 0) 79 12 = dt 79 12 := rfl
        have w340 : (u2 dt 79 20 0) 79 13 = dt 79 13 := rfl
        have w341 : (u2 dt 79 20 0) 79 14 = dt 79 14 := rfl
        have w342 : (u2 dt 79 20 0) 79 15 = dt 79 15 := rfl
        have w343 : (u2 dt 79 20 0) 79 16 = dt 79 16 := rfl
        have w344 : (u2 dt 79 20 0) 79 17 = dt 79 17 := rfl
        have w345 : (u2 dt 79 20 0) 79 18 = dt 79 18 := rfl
        have w346 : (u2 dt 79 20 0) 79 20 = 0 := rfl
        have hc347 : CUR 1 b n (u2 dt 79 20 0) i := CUR_sm hc rfl rfl rfl rfl
        have bk348 : ∀ j : Nat, (j : Int) < 4 * dt 79 10 → (u2 dt 79 20 0) 83 j = dt 83 j := fun j hj => (u2_ne (by omega)).trans ((fun _ _ => rfl) j hj)
        refine go_smpq PM173 (L' := [some (.inr (.inr (some 79))), some (.inl 1)]) (st' := []) (w' := (SH, (u2 dt 79 20 0))) rfl rfl (s_pf rfl rfl rfl rfl ⟨by decide, by decide⟩) ?_
        refine go_toq PM173 (k := 1) (pc' := 60) (L' := [some (.inr (.inr (some 79))), some (.inl 1)]) (st' := [.inr (.inr (some 79))]) (w' := (SH, (u2 dt 79 20 0))) rfl ?_
        refine go_callq PM173 PM159 (Q' := _) rfl rfl rfl rfl (sp_X6_next0_p1 L xs sio (d + 30) (u2 dt 79 20 0) hI333   (by first | exact True.intro | with_reducible assumption | exact unhid (by with_reducible assumption) | rfl | omega | trivial) (by first | exact True.intro | with_reducible assumption | exact unhid (by with_reducible assumption) | rfl | omega | trivial)) ?_
        rintro _ _ ⟨dt350, rfl, hI351, hF352, h349⟩
        refine ⟨rfl, ?_⟩
        have hF353 : Fr [79, 83, 84] dt dt350 := Fr_tr hF334 hF352 (by decide)
        rcases h349 with ⟨rfl, h349⟩
        obtain ⟨h349_0, h349_1, h349_2, h349_3, h349_4, h349_5, h349_6, h349_7, h349_8⟩ := h349
        have w354 : dt350 79 2 = dt 79 2 := h349_2.trans w335
        have w355 : dt350 79 9 = dt 79 9 := h349_3.trans w336
        have w356 : dt350 79 10 = dt 79 10 := h349_4.trans w337
        have w357 : dt350 79 11 = dt 79 11 := h349_5.trans w338
        have w358 : dt350 79 12 = dt 79 12 := h349_6.trans w339
        have w359 : dt350 79 17 = dt 79 17 := h349_7.trans w344
        have w360 : dt350 79 20 = 0 := h349_8.trans w346
        have hq361 := h349_0
        rw [show (u2 dt 79 20 0) 85 = dt 85 from funext (hF334 85 (by decide)), show (u2 dt 79 20 0) 79 12 = dt 79 12 by first | with_reducible assumption | exact unhid (by with_reducible assumption) | fail, hbb, show (dt 79 12).toNat = n from (congrArg Int.toNat hnn).trans (Int.toNat_natCast n)] at hq361
        have hc362 : CUR 1 b n dt350 (i + 1) := CUR_n hc347 hq361
        have hi363 : i + 1 ≤ t := by (have z_ := unhid u2_; omega)
        have av364 : (u2 dt 79 20 0) 79 15 + 1 ≤ (u2 dt 79 20 0) 79 13 := by (have z_ := unhid u2_; omega)
        have kk_ : KF 1 b n i = 1000 := by (have z_ := unhid u2_; omega)
        have hp365 : (gLF (KF 1 b n) (VF b n) (dt 79 10)) i = (fun i => gB (gA (KF 1 b n) (VF b n) 7 i) (gL1 (KF 1 b n) (VF b n))) (i + 1) := (rfl : (gLF (KF 1 b n) (VF b n) (dt 79 10)) i = (gLF (KF 1 b n) (VF b n) (dt 79 10)) i).trans (by show gLF _ _ _ _ = _; unfold gLF; rw [if_neg (by (have z_ := unhid u2_; omega)), if_neg (by (have z_ := unhid u2_; omega))]; exact gLine_r (by (have z_ := unhid u2_; omega)))
        clear cr0 cb0 cd0 cv0 ck0
        have cr366 := hid (CUR_R hc362 (.inr rfl))
        have cd367 := CUR_d (hc362)
        have cb367 := hid (CUR_b hc362)
        have cv368 := hid (CUR_v hc362)
        have ck369 := hid (KZ_lt (i := (i + 1)) hz)
        have c1370 := (hc362).1
        have ci371 := hi363
        have bk372 : ∀ j : Nat, (j : Int) < 4 * dt 79 10 → dt350 83 j = dt 83 j := fun j hj => (hF352 83 (by decide) j).trans (bk348 j hj)
        clear h349_2 w335 h349_3 w336 h349_4 w337 h349_5 w338 h349_6 w339 h349_7 w344 h349_8 w346
        have r373 : 0 ≤ dt350 79 10 ∧ dt350 79 10 ≤ 24 := InvC_get hI351 79 10 rfl rfl
        have r374 : 0 ≤ dt350 79 16 ∧ dt350 79 16 ≤ 9999 := InvC_get hI351 79 16 rfl rfl
        refine go_toq PM173 (k := 11) (pc' := 86) (L' := [some (.inr (.inr (some 79))), some (.inl 1)]) (st' := [.inl (dt350 79 16), .inl (4 * (dt350 79 10)), .inr (.inr (some 83))]) (w' := (SH, dt350)) rfl ?_
        have hI375 : InvC (u2 dt350 83 ((4 * (dt350 79 10)).toNat) (dt350 79 16)) := InvC_u2 hI351 (lo := -2147483648) (hi := 2147483647) rfl rfl rfl (by first | exact bnd1 r374 (by decide) | fail) (by first | exact bnd2 r374 (by decide) | fail)
        have hF376 : Fr [79, 83, 84] dt (u2 dt350 83 ((4 * (dt350 79 10)).toNat) (dt350 79 16)) := Fr_u2 hF353 (by decide)
        have w377 : (u2 dt350 83 ((4 * (dt350 79 10)).toNat) (dt350 79 16)) 79 2 = dt 79 2 := w354
        have w378 : (u2 dt350 83 ((4 * (dt350 79 10)).toNat) (dt350 79 16)) 79 9 = dt 79 9 := w355
        have w379 : (u2 dt350 83 ((4 * (dt350 79 10)).toNat) (dt350 79 16)) 79 10 = dt 79 10 := w356
        have w380 : (u2 dt350 83 ((4 * (dt350 79 10)).toNat) (dt350 79 16)) 79 11 = dt 79 11 := w357
        have w381 : (u2 dt350 83 ((4 * (dt350 79 10)).toNat) (dt350 79 16)) 79 12 = dt 79 12 := w358
        have w382 : (u2 dt350 83 ((4 * (dt350 79 10)).toNat) (dt350 79 16)) 79 13 = dt350 79 13 := rfl
        have w383 : (u2 dt350 83 ((4 * (dt350 79 10)).toNat) (dt350 79 16)) 79 14 = dt350 79 14 := rfl
        have w384 : (u2 dt350 83 ((4 * (dt350 79 10)).toNat) (dt350 79 16)) 79 15 = dt350 79 15 := rfl
        have w385 : (u2 dt350 83 ((4 * (dt350 79 10)).toNat) (dt350 79 16)) 79 16 = dt350 79 16 := rfl
        have w386 : (u2 dt350 83 ((4 * (dt350 79 10)).toNat) (dt350 79 16)) 79 17 = dt 79 17 := w359
        have w387 : (u2 dt350 83 ((4 * (dt350 79 10)).toNat) (dt350 79 16)) 79 18 = dt350 79 18 := rfl
        have w388 : (u2 dt350 83 ((4 * (dt350 79 10)).toNat) (dt350 79 16)) 79 20 = 0 := w360
        have hc389 : CUR 1 b n (u2 dt350 83 ((4 * (dt350 79 10)).toNat) (dt350 79 16)) (i + 1) := CUR_sm hc362 rfl rfl rfl rfl
        have w390 : (u2 dt350 83 ((4 * (dt350 79 10)).toNat) (dt350 79 16)) 83 (4 * (dt 79 10)).toNat = dt350 79 16 := by rw [show (4 * (dt 79 10)).toNat = (4 * (dt350 79 10)).toNat by first | with_reducible assumption | exact unhid (by with_reducible assumption) | omega]; exact u2_eq.trans (by first | exact (lnR_p (by fail)).symm | rfl)
        have bk391 : ∀ j : Nat, (j : Int) < 4 * dt 79 10 → (u2 dt350 83 ((4 * (dt350 79 10)).toNat) (dt350 79 16)) 83 j = dt 83 j := fun j hj => (u2_ne (by omega)).trans (bk372 j hj)
        refine go_smpq PM173 (L' := [some (.inr (.inr (some 79))), some (.inl 1)]) (st' := []) (w' := (SH, (u2 dt350 83 ((4 * (dt350 79 10)).toNat) (dt350 79 16)))) rfl rfl (s_iast (n := 64) rfl ⟨by omega, by omega⟩ (by first | exact bnd r374 (by decide) (by decide) | exact ⟨by fail, by fail⟩)) ?_
        refine go_toq PM173 (k := 5) (pc' := 95) (L' := [some (.inr (.inr (some 79))), some (.inl 1)]) (st' := [.inl 7, .inl 0, .inr (.inr (some 79))]) (w' := (SH, (u2 dt350 83 ((4 * (dt350 79 10)).toNat) (dt350 79 16)))) rfl ?_
        refine go_callq PM173 PM162 (Q' := _) rfl rfl rfl rfl (sp_X6_number_g1a L xs sio (d + 29) (u2 dt350 83 ((4 * (dt350 79 10)).toNat) (dt350 79 16)) hI375 b n t (i + 1) (by first | exact hbb | (rw [show (u2 dt350 83 ((4 * (dt350 79 10)).toNat) (dt350 79 16)) 85 = dt 85 from funext (hF376 85 (by decide)), show (u2 dt350 83 ((4 * (dt350 79 10)).toNat) (dt350 79 16)) 79 12 = dt 79 12 by first | with_reducible assumption | exact unhid (by with_reducible assumption) | fail]; exact hbb)) (by first | with_reducible assumption | exact unhid (by with_reducible assumption) | exact Eq.trans (by with_reducible assumption) hnn | fail) hz ht hc389 hi363 hn5 7 ⟨by decide, by decide⟩ (by first | exact True.intro | with_reducible assumption | exact unhid (by with_reducible assumption) | rfl | omega | trivial)) ?_
        rintro _ _ ⟨dt393, rfl, hI394, hF395, h392⟩
        refine ⟨rfl, ?_⟩
        have hF396 : Fr [79, 83, 84] dt dt393 := Fr_tr hF376 hF395 (by decide)
        rcases h392 with ⟨rfl, h392⟩ | ⟨rfl, h392⟩
        · skip
          obtain ⟨h392_0, h392_1, h392_2, h392_3, h392_4⟩ := h392
          have w397 : dt393 79 2 = dt 79 2 := h392_1.trans w377
          have w398 : dt393 79 9 = dt 79 9 := h392_2.trans w378
          have w399 : dt393 79 10 = dt 79 10 := h392_3.trans w379
          have w400 : dt393 79 12 = dt 79 12 := h392_4.trans w381
          have fl401 := RSX_0 h392_0 rfl
          have fe402 : (gLF (KF 1 b n) (VF b n) (dt 79 10)) i = (gA (KF 1 b n) (VF b n) 7) (i + 1) := hp365.trans ((show (fun i => gB (gA (KF 1 b n) (VF b n) 7 i) (gL1 (KF 1 b n) (VF b n))) (i + 1) = gB ((gA (KF 1 b n) (VF b n) 7) (i + 1)) (gL1 (KF 1 b n) (VF b n)) by rfl).trans (gB_no fl401.1))
          have w403 : dt393 83 (4 * (dt 79 10)).toNat = dt350 79 16 := (hF395 83 (by decide) _).trans w390
          have bk404 : ∀ j : Nat, (j : Int) < 4 * dt 79 10 → dt393 83 j = dt 83 j := fun j hj => (hF395 83 (by decide) j).trans (bk391 j hj)
          clear h392_1 w377 h392_2 w378 h392_3 w379 h392_4 w381
          refine go_retq PM173 (k := 2) (r := some (.inl 0)) (w1 := (SH, dt393)) rfl ?_
          exact ⟨dt393, rfl, hI394, hF396, (Or.inl ⟨rfl, ⟨by exact RSX_f fe402 fl401 (by first | rfl | with_reducible assumption | exact unhid (by with_reducible assumption) | fail) (by first | rfl | with_reducible assumption | exact unhid (by with_reducible assumption) | fail), by first | exact True.intro | with_reducible assumption | exact unhid (by with_reducible assumption) | rfl | fail | trivial, by first | exact True.intro | with_reducible assumption | exact unhid (by with_reducible assumption) | rfl | fail | trivial, by first | exact True.intro | with_reducible assumption | exact unhid (by with_reducible assumption) | rfl | fail | trivial, by first | exact True.intro | with_reducible assumption | exact unhid (by with_reducible assumption) | rfl | fail | trivial⟩⟩)⟩
        · skip
          obtain ⟨h392_0, h392_1, h392_2, h392_3, h392_4, h392_5, h392_6, h392_7, h392_8, h392_9, h392_10⟩ := h392
          have w405 : dt393 79 2 = dt 79 2 := h392_4.trans w377
          have w406 : dt393 79 9 = dt 79 9 := h392_5.trans w378
          have w407 : dt393 79 10 = dt 79 10 := h392_6.trans w379
          have w408 : dt393 79 11 = dt 79 11 := h392_7.trans w380
          have w409 : dt393 79 12 = dt 79 12 := h392_8.trans w381
          have w410 : dt393 79 17 = dt 79 17 := h392_9.trans w386
          have w411 : dt393 79 20 = 0 := h392_10.trans w388
          obtain ⟨j412, ej413, hc414⟩ := RSX_1 h392_0 (by decide)
          have hp415 : (gLF (KF 1 b n) (VF b n) (dt 79 10)) i = (gL1 (KF 1 b n) (VF b n)) j412 := hp365.trans ((show (fun i => gB (gA (KF 1 b n) (VF b n) 7 i) (gL1 (KF 1 b n) (VF b n))) (i + 1) = gB ((gA (KF 1 b n) (VF b n) 7) (i + 1)) (gL1 (KF 1 b n) (VF b n)) by rfl).trans (by rw [ej413]; exact gB_0))
          have hi416 : j412 ≤ t := by have z := gA_M (K := (KF 1 b n)) (V := (VF b n)) (m := 7) (i := (i + 1)) hz; rw [ej413] at z; have y := z rfl; simp only at y; omega
          clear cr366 cb367 cd367 cv368 ck369
          have cr417 := hid (CUR_R hc414 (.inr rfl))
          have cd418 := CUR_d (hc414)
          have cb418 := hid (CUR_b hc414)
          have cv419 := hid (CUR_v hc414)
          have ck420 := hid (KZ_lt (i := j412) hz)
          have c1421 := (hc414).1
          have ci422 := hi416
          have w423 : dt393 83 (4 * (dt 79 10)).toNat = dt350 79 16 := (hF395 83 (by decide) _).trans w390
          have w424 : dt393 83 (4 * (dt 79 10)).toNat = lnR (KF 1 b n) (VF b n) i := w423.trans ((show dt350 79 16 = VF b n (i + 1) from h392_1).trans (lnR_r (by omega)).symm)
          have bk425 : ∀ j : Nat, (j : Int) < 4 * dt 79 10 → dt393 83 j = dt 83 j := fun j hj => (hF395 83 (by decide) j).trans (bk391 j hj)
          clear h392_4 w377 h392_5 w378 h392_6 w379 h392_7 w380 h392_8 w381 h392_9 w386 h392_10 w388
          have r426 : 0 ≤ dt393 79 10 ∧ dt393 79 10 ≤ 24 := InvC_get hI394 79 10 rfl rfl
          have r427 : 0 ≤ dt393 79 11 ∧ dt393 79 11 ≤ 510 := InvC_get hI394 79 11 rfl rfl
          refine go_toq PM173 (k := 11) (pc' := 119) (L' := [some (.inr (.inr (some 79))), some (.inl 1)]) (st' := [.inl (dt393 79 11), .inl ((4 * (dt393 79 10)) + 1), .inr (.inr (some 83))]) (w' := (SH, dt393)) rfl ?_
          have hI428 : InvC (u2 dt393 83 (((4 * (dt393 79 10)) + 1).toNat) (dt393 79 11)) := InvC_u2 hI394 (lo := -2147483648) (hi := 2147483647) rfl rfl rfl (by first | exact bnd1 r427 (by decide) | fail) (by first | exact bnd2 r427 (by decide) | fail)
          have hF429 : Fr [79, 83, 84] dt (u2 dt393 83 (((4 * (dt393 79 10)) + 1).toNat) (dt393 79 11)) := Fr_u2 hF396 (by decide)
          have w430 : (u2 dt393 83 (((4 * (dt393 79 10)) + 1).toNat) (dt393 79 11)) 79 2 = dt 79 2 := w405
          have w431 : (u2 dt393 83 (((4 * (dt393 79 10)) + 1).toNat) (dt393 79 11)) 79 9 = dt 79 9 := w406
          have w432 : (u2 dt393 83 (((4 * (dt393 79 10)) + 1).toNat) (dt393 79 11)) 79 10 = dt 79 10 := w407
          have w433 : (u2 dt393 83 (((4 * (dt393 79 10)) + 1).toNat) (dt393 79 11)) 79 11 = dt 79 11 := w408
          have w434 : (u2 dt393 83 (((4 * (dt393 79 10)) + 1).toNat) (dt393 79 11)) 79 12 = dt 79 12 := w409
          have w435 : (u2 dt393 83 (((4 * (dt393 79 10)) + 1).toNat) (dt393 79 11)) 79 13 = dt393 79 13 := rfl
          have w436 : (u2 dt393 83 (((4 * (dt393 79 10)) + 1).toNat) (dt393 79 11)) 79 14 = dt393 79 14 := rfl
          have w437 : (u2 dt393 83 (((4 * (dt393 79 10)) + 1).toNat) (dt393 79 11)) 79 15 = dt393 79 15 := rfl
          have w438 : (u2 dt393 83 (((4 * (dt393 79 10)) + 1).toNat) (dt393 79 11)) 79 16 = dt393 79 16 := rfl
          have w439 : (u2 dt393 83 (((4 * (dt393 79 10)) + 1).toNat) (dt393 79 11)) 79 17 = dt 79 17 := w410
          have w440 : (u2 dt393 83 (((4 * (dt393 79 10)) + 1).toNat) (dt393 79 11)) 79 18 = dt393 79 18 := rfl
          have w441 : (u2 dt393 83 (((4 * (dt393 79 10)) + 1).toNat) (dt393 79 11)) 79 20 = 0 := w411
          have hc442 : CUR 1 b n (u2 dt393 83 (((4 * (dt393 79 10)) + 1).toNat) (dt393 79 11)) j412 := CUR_sm hc414 rfl rfl rfl rfl
          have w443 : (u2 dt393 83 (((4 * (dt393 79 10)) + 1).toNat) (dt393 79 11)) 83 (4 * (dt 79 10)).toNat = lnR (KF 1 b n) (VF b n) i := (u2_ne (by omega)).trans w424
          have w444 : (u2 dt393 83 (((4 * (dt393 79 10)) + 1).toNat) (dt393 79 11)) 83 ((4 * (dt 79 10)) + 1).toNat = dt 79 11 := by rw [show ((4 * (dt 79 10)) + 1).toNat = ((4 * (dt393 79 10)) + 1).toNat by first | with_reducible assumption | exact unhid (by with_reducible assumption) | omega]; exact u2_eq.trans (by omega)
          have bk445 : ∀ j : Nat, (j : Int) < 4 * dt 79 10 → (u2 dt393 83 (((4 * (dt393 79 10)) + 1).toNat) (dt393 79 11)) 83 j = dt 83 j := fun j hj => (u2_ne (by omega)).trans (bk425 j hj)
          refine go_smpq PM173 (L' := [some (.inr (.inr (some 79))), some (.inl 1)]) (st' := []) (w' := (SH, (u2 dt393 83 (((4 * (dt393 79 10)) + 1).toNat) (dt393 79 11)))) rfl rfl (s_iast (n := 64) rfl ⟨by omega, by omega⟩ (by first | exact bnd r427 (by decide) (by decide) | exact ⟨by fail, by fail⟩)) ?_
          refine go_toq PM173 (k := 1) (pc' := 121) (L' := [some (.inr (.inr (some 79))), some (.inl 1)]) (st' := [.inr (.inr (some 79))]) (w' := (SH, (u2 dt393 83 (((4 * (dt393 79 10)) + 1).toNat) (dt393 79 11)))) rfl ?_
          refine go_callq PM173 PM165 (Q' := _) rfl rfl rfl rfl (sp_X6_sumUp_g L xs sio (d + 27) (u2 dt393 83 (((4 * (dt393 79 10)) + 1).toNat) (dt393 79 11)) hI428 b n t j412 (by first | exact hbb | (rw [show (u2 dt393 83 (((4 * (dt393 79 10)) + 1).toNat) (dt393 79 11)) 85 = dt 85 from funext (hF429 85 (by decide)), show (u2 dt393 83 (((4 * (dt393 79 10)) + 1).toNat) (dt393 79 11)) 79 12 = dt 79 12 by first | with_reducible assumption | exact unhid (by with_reducible assumption) | fail]; exact hbb)) (by first | with_reducible assumption | exact unhid (by with_reducible assumption) | exact Eq.trans (by with_reducible assumption) hnn | fail) hz ht hc442 hi416 hn5  (by first | exact True.intro | with_reducible assumption | exact unhid (by with_reducible assumption) | rfl | omega | trivial) (by first | exact True.intro | with_reducible assumption | exact unhid (by with_reducible assumption) | rfl | omega | trivial)) ?_
          rintro _ _ ⟨dt447, rfl, hI448, hF449, h446⟩
          refine ⟨rfl, ?_⟩
          have hF450 : Fr [79, 83, 84] dt dt447 := Fr_tr hF429 hF449 (by decide)
          rcases h446 with ⟨rfl, h446⟩ | ⟨rfl, h446⟩
          · skip
            obtain ⟨h446_0, h446_1, h446_2, h446_3, h446_4⟩ := h446
            have w451 : dt447 79 2 = dt 79 2 := h446_1.trans w430
            have w452 : dt447 79 9 = dt 79 9 := h446_2.trans w431
            have w453 : dt447 79 10 = dt 79 10 := h446_3.trans w432
            have w454 : dt447 79 12 = dt 79 12 := h446_4.trans w434
            have fl455 := RSX_0 h446_0 rfl
            have fe456 : (gLF (KF 1 b n) (VF b n) (dt 79 10)) i = (gE (KF 1 b n) (VF b n)) j412 := hp415.trans ((show (gL1 (KF 1 b n) (VF b n)) j412 = gB ((gE (KF 1 b n) (VF b n)) j412) (gL2 (KF 1 b n) (VF b n)) by rfl).trans (gB_no fl455.1))
            have w457 : dt447 83 (4 * (dt 79 10)).toNat = lnR (KF 1 b n) (VF b n) i := (hF449 83 (by decide) _).trans w443
            have w458 : dt447 83 ((4 * (dt 79 10)) + 1).toNat = dt 79 11 := (hF449 83 (by decide) _).trans w444
            have bk459 : ∀ j : Nat, (j : Int) < 4 * dt 79 10 → dt447 83 j = dt 83 j := fun j hj => (hF449 83 (by decide) j).trans (bk445 j hj)
            clear h446_1 w430 h446_2 w431 h446_3 w432 h446_4 w434
            refine go_retq PM173 (k := 2) (r := some (.inl 0)) (w1 := (SH, dt447)) rfl ?_
            exact ⟨dt447, rfl, hI448, hF450, (Or.inl ⟨rfl, ⟨by exact RSX_f fe456 fl455 (by first | rfl | with_reducible assumption | exact unhid (by with_reducible assumption) | fail) (by first | rfl | with_reducible assumption | exact unhid (by with_reducible assumption) | fail), by first | exact True.intro | with_reducible assumption | exact unhid (by with_reducible assumption) | rfl | fail | trivial, by first | exact True.intro | with_reducible assumption | exact unhid (by with_reducible assumption) | rfl | fail | trivial, by first | exact True.intro | with_reducible assumption | exact unhid (by with_reducible assumption) | rfl | fail | trivial, by first | exact True.intro | with_reducible assumption | exact unhid (by with_reducible assumption) | rfl | fail | trivial⟩⟩)⟩
          · skip
            obtain ⟨h446_0, h446_1, h446_2, h446_3, h446_4, h446_5, h446_6, h446_7, h446_8, h446_9, h446_10⟩ := h446
            have w460 : dt447 79 2 = dt 79 2 := h446_5.trans w430
            have w461 : dt447 79 9 = dt 79 9 := h446_6.trans w431
            have w462 : dt447 79 10 = dt 79 10 := h446_7.trans w432
            have w463 : dt447 79 12 = dt 79 12 := h446_8.trans w434
            have w464 : dt447 79 17 = dt 79 17 := h446_9.trans w439
            have w465 : dt447 79 20 = 0 := h446_10.trans w441
            obtain ⟨j466, ej467, hc468⟩ := RSX_1 h446_0 (by decide)
            have hp469 : (gLF (KF 1 b n) (VF b n) (dt 79 10)) i = (gL2 (KF 1 b n) (VF b n)) j466 := hp415.trans ((show (gL1 (KF 1 b n) (VF b n)) j412 = gB ((gE (KF 1 b n) (VF b n)) j412) (gL2 (KF 1 b n) (VF b n)) by rfl).trans (by rw [ej467]; exact gB_0))
            have hi470 : j466 ≤ t := by have z := gE_M (K := (KF 1 b n)) (V := (VF b n)) (i := j412) hz; rw [ej467] at z; have y := z rfl; simp only at y; omega
            clear cr417 cb418 cd418 cv419 ck420
            have cr471 := hid (CUR_R hc468 (.inr rfl))
            have cd472 := CUR_d (hc468)
            have cb472 := hid (CUR_b hc468)
            have cv473 := hid (CUR_v hc468)
            have ck474 := hid (KZ_lt (i := j466) hz)
            have c1475 := (hc468).1
            have ci476 := hi470
            have u13_ := hid (And.intro (unhid c7) (And.intro (unhid cr471) (And.intro (unhid cb472) (And.intro (unhid cv473) (unhid ck474)))))
            have ls478 : j412 = lnP (KF 1 b n) i := by first | exact (lnP_p (by fail)).symm | (rw [lnP_r (by omega)]; have y_ := congrArg Prod.snd ej413; have w_ := gA_at (K := (KF 1 b n)) (V := (VF b n)) (m := 7) (i := i + 1) (by rw [ej413]); omega)
            have RS477 : RXD dt dt447 (rE (KF 1 b n) (VF b n) (lnP (KF 1 b n) i)) := by rw [← ls478]; exact RXD_l (by omega) (fun j => (u2_ne (by omega)).trans ((hF395 84 (by decide) j).trans ((u2_ne (by omega)).trans ((hF352 84 (by decide) j).trans (u2_ne (by omega)))))) h446_4
            have gj479 : (gE (KF 1 b n) (VF b n) (lnP (KF 1 b n) i)).2 = j466 := by rw [← ls478, ej467]
            have w480 : dt447 83 (4 * (dt 79 10)).toNat = lnR (KF 1 b n) (VF b n) i := (hF449 83 (by decide) _).trans w443
            have w481 : dt447 83 ((4 * (dt 79 10)) + 1).toNat = dt 79 11 := (hF449 83 (by decide) _).trans w444
            have bk482 : ∀ j : Nat, (j : Int) < 4 * dt 79 10 → dt447 83 j = dt 83 j := fun j hj => (hF449 83 (by decide) j).trans (bk445 j hj)
            clear h446_5 w430 h446_6 w431 h446_7 w432 h446_8 w434 h446_9 w439 h446_10 w441
            have r483 : 0 ≤ dt447 79 10 ∧ dt447 79 10 ≤ 24 := InvC_get hI448 79 10 rfl rfl
            have r484 : 0 ≤ dt447 79 11 ∧ dt447 79 11 ≤ 510 := InvC_get hI448 79 11 rfl rfl
            refine go_toq PM173 (k := 11) (pc' := 145) (L' := [some (.inr (.inr (some 79))), some (.inl 1)]) (st' := [.inl (dt447 79 11), .inl ((4 * (dt447 79 10)) + 2), .inr (.inr (some 83))]) (w' := (SH, dt447)) rfl ?_
            have hI485 : InvC (u2 dt447 83 (((4 * (dt447 79 10)) + 2).toNat) (dt447 79 11)) := InvC_u2 hI448 (lo := -2147483648) (hi := 2147483647) rfl rfl rfl (by first | exact bnd1 r484 (by decide) | fail) (by first | exact bnd2 r484 (by decide) | fail)
            have hF486 : Fr [79, 83, 84] dt (u2 dt447 83 (((4 * (dt447 79 10)) + 2).toNat) (dt447 79 11)) := Fr_u2 hF450 (by decide)
            have w487 : (u2 dt447 83 (((4 * (dt447 79 10)) + 2).toNat) (dt447 79 11)) 79 2 = dt 79 2 := w460
            have w488 : (u2 dt447 83 (((4 * (dt447 79 10)) + 2).toNat) (dt447 79 11)) 79 9 = dt 79 9 := w461
            have w489 : (u2 dt447 83 (((4 * (dt447 79 10)) + 2).toNat) (dt447 79 11)) 79 10 = dt 79 10 := w462
            have w490 : (u2 dt447 83 (((4 * (dt447 79 10)) + 2).toNat) (dt447 79 11)) 79 11 = dt447 79 11 := rfl
            have w491 : (u2 dt447 83 (((4 * (dt447 79 10)) + 2).toNat) (dt447 79 11)) 79 12 = dt 79 12 := w463
            have w492 : (u2 dt447 83 (((4 * (dt447 79 10)) + 2).toNat) (dt447 79 11)) 79 13 = dt447 79 13 := rfl
            have w493 : (u2 dt447 83 (((4 * (dt447 79 10)) + 2).toNat) (dt447 79 11)) 79 14 = dt447 79 14 := rfl
            have w494 : (u2 dt447 83 (((4 * (dt447 79 10)) + 2).toNat) (dt447 79 11)) 79 15 = dt447 79 15 := rfl
            have w495 : (u2 dt447 83 (((4 * (dt447 79 10)) + 2).toNat) (dt447 79 11)) 79 16 = dt447 79 16 := rfl
            have w496 : (u2 dt447 83 (((4 * (dt447 79 10)) + 2).toNat) (dt447 79 11)) 79 17 = dt 79 17 := w464
            have w497 : (u2 dt447 83 (((4 * (dt447 79 10)) + 2).toNat) (dt447 79 11)) 79 18 = dt447 79 18 := rfl
            have w498 : (u2 dt447 83 (((4 * (dt447 79 10)) + 2).toNat) (dt447 79 11)) 79 20 = 0 := w465
            have hc499 : CUR 1 b n (u2 dt447 83 (((4 * (dt447 79 10)) + 2).toNat) (dt447 79 11)) j466 := CUR_sm hc468 rfl rfl rfl rfl
            have w500 : (u2 dt447 83 (((4 * (dt447 79 10)) + 2).toNat) (dt447 79 11)) 83 (4 * (dt 79 10)).toNat = lnR (KF 1 b n) (VF b n) i := (u2_ne (by omega)).trans w480
            have w501 : (u2 dt447 83 (((4 * (dt447 79 10)) + 2).toNat) (dt447 79 11)) 83 ((4 * (dt 79 10)) + 1).toNat = dt 79 11 := (u2_ne (by omega)).trans w481
            have w502 : (u2 dt447 83 (((4 * (dt447 79 10)) + 2).toNat) (dt447 79 11)) 83 ((4 * (dt 79 10)) + 2).toNat = dt447 79 11 := by rw [show ((4 * (dt 79 10)) + 2).toNat = ((4 * (dt447 79 10)) + 2).toNat by first | with_reducible assumption | exact unhid (by with_reducible assumption) | omega]; exact u2_eq.trans (by omega)
            have bk503 : ∀ j : Nat, (j : Int) < 4 * dt 79 10 → (u2 dt447 83 (((4 * (dt447 79 10)) + 2).toNat) (dt447 79 11)) 83 j = dt 83 j := fun j hj => (u2_ne (by omega)).trans (bk482 j hj)
            refine go_smpq PM173 (L' := [some (.inr (.inr (some 79))), some (.inl 1)]) (st' := []) (w' := (SH, (u2 dt447 83 (((4 * (dt447 79 10)) + 2).toNat) (dt447 79 11)))) rfl rfl (s_iast (n := 64) rfl ⟨by omega, by omega⟩ (by first | exact bnd r484 (by decide) (by decide) | exact ⟨by fail, by fail⟩)) ?_
            have r504 : (-2147483648) ≤ dt447 79 14 ∧ dt447 79 14 ≤ 2147483647 := InvC_get hI448 79 14 rfl rfl
            refine go_ifq PM173 (k := 3) (p1 := 167) (p2 := 154) (L' := [some (.inr (.inr (some 79))), some (.inl 1)]) (st' := []) (w' := (SH, (u2 dt447 83 (((4 * (dt447 79 10)) + 2).toNat) (dt447 79 11)))) rfl (c_ne (a := dt447 79 14) (b := 3) (by first | exact bnd r504 (by decide) (by decide) | exact ⟨by fail, by fail⟩) ⟨by decide, by decide⟩) (fun c505 => ?_) (fun c505 => ?_)
            · skip
              replace c505 := hid c505
              refine go_toq PM173 (k := 10) (pc' := 183) (L' := [some (.inr (.inr (some 79))), some (.inl 1)]) (st' := [.inl (dt447 79 11), .inl ((4 * (dt447 79 10)) + 3), .inr (.inr (some 83))]) (w' := (SH, (u2 dt447 83 (((4 * (dt447 79 10)) + 2).toNat) (dt447 79 11)))) rfl ?_
              have u14_ := hid (And.intro (unhid c7) (And.intro (unhid cr471) (And.intro (unhid cb472) (And.intro (unhid cv473) (And.intro (unhid ck474) (unhid c505))))))
              have hI506 : InvC (u2 (u2 dt447 83 (((4 * (dt447 79 10)) + 2).toNat) (dt447 79 11)) 83 (((4 * (dt447 79 10)) + 3).toNat) (dt447 79 11)) := InvC_u2 hI485 (lo := -2147483648) (hi := 2147483647) rfl rfl rfl (by first | exact bnd1 r484 (by decide) | fail) (by first | exact bnd2 r484 (by decide) | fail)
              have hF507 : Fr [79, 83, 84] dt (u2 (u2 dt447 83 (((4 * (dt447 79 10)) + 2).toNat) (dt447 79 11)) 83 (((4 * (dt447 79 10)) + 3).toNat) (dt447 79 11)) := Fr_u2 hF486 (by decide)
              have w508 : (u2 (u2 dt447 83 (((4 * (dt447 79 10)) + 2).toNat) (dt447 79 11)) 83 (((4 * (dt447 79 10)) + 3).toNat) (dt447 79 11)) 79 2 = dt 79 2 := w487
              have w509 : (u2 (u2 dt447 83 (((4 * (dt447 79 10)) + 2).toNat) (dt447 79 11)) 83 (((4 * (dt447 79 10)) + 3).toNat) (dt447 79 11)) 79 9 = dt 79 9 := w488
              have w510 : (u2 (u2 dt447 83 (((4 * (dt447 79 10)) + 2).toNat) (dt447 79 11)) 83 (((4 * (dt447 79 10)) + 3).toNat) (dt447 79 11)) 79 10 = dt 79 10 := w489
              have w511 : (u2 (u2 dt447 83 (((4 * (dt447 79 10)) + 2).toNat) (dt447 79 11)) 83 (((4 * (dt447 79 10)) + 3).toNat) (dt447 79 11)) 79 11 = dt447 79 11 := w490
              have w512 : (u2 (u2 dt447 83 (((4 * (dt447 79 10)) + 2).toNat) (dt447 79 11)) 83 (((4 * (dt447 79 10)) + 3).toNat) (dt447 79 11)) 79 12 = dt 79 12 := w491
              have w513 : (u2 (u2 dt447 83 (((4 * (dt447 79 10)) + 2).toNat) (dt447 79 11)) 83 (((4 * (dt447 79 10)) + 3).toNat) (dt447 79 11)) 79 13 = dt447 79 13 := w492
              have w514 : (u2 (u2 dt447 83 (((4 * (dt447 79 10)) + 2).toNat) (dt447 79 11)) 83 (((4 * (dt447 79 10)) + 3).toNat) (dt447 79 11)) 79 14 = dt447 79 14 := w493
              have w515 : (u2 (u2 dt447 83 (((4 * (dt447 79 10)) + 2).toNat) (dt447 79 11)) 83 (((4 * (dt447 79 10)) + 3).toNat) (dt447 79 11)) 79 15 = dt447 79 15 := w494
              have w516 : (u2 (u2 dt447 83 (((4 * (dt447 79 10)) + 2).toNat) (dt447 79 11)) 83 (((4 * (dt447 79 10)) + 3).toNat) (dt447 79 11)) 79 16 = dt447 79 16 := w495
              have w517 : (u2 (u2 dt447 83 (((4 * (dt447 79 10)) + 2).toNat) (dt447 79 11)) 83 (((4 * (dt447 79 10)) + 3).toNat) (dt447 79 11)) 79 17 = dt 79 17 := w496
              have w518 : (u2 (u2 dt447 83 (((4 * (dt447 79 10)) + 2).toNat) (dt447 79 11)) 83 (((4 * (dt447 79 10)) + 3).toNat) (dt447 79 11)) 79 18 = dt447 79 18 := w497
              have w519 : (u2 (u2 dt447 83 (((4 * (dt447 79 10)) + 2).toNat) (dt447 79 11)) 83 (((4 * (dt447 79 10)) + 3).toNat) (dt447 79 11)) 79 20 = 0 := w498
              clear w487 w488 w489 w490 w491 w492 w493 w494 w495 w496 w497 w498
              have hc520 : CUR 1 b n (u2 (u2 dt447 83 (((4 * (dt447 79 10)) + 2).toNat) (dt447 79 11)) 83 (((4 * (dt447 79 10)) + 3).toNat) (dt447 79 11)) j466 := CUR_sm hc499 rfl rfl rfl rfl
              have w521 : (u2 (u2 dt447 83 (((4 * (dt447 79 10)) + 2).toNat) (dt447 79 11)) 83 (((4 * (dt447 79 10)) + 3).toNat) (dt447 79 11)) 83 (4 * (dt 79 10)).toNat = lnR (KF 1 b n) (VF b n) i := (u2_ne (by omega)).trans w500
              have w522 : (u2 (u2 dt447 83 (((4 * (dt447 79 10)) + 2).toNat) (dt447 79 11)) 83 (((4 * (dt447 79 10)) + 3).toNat) (dt447 79 11)) 83 ((4 * (dt 79 10)) + 1).toNat = dt 79 11 := (u2_ne (by omega)).trans w501
              have w523 : (u2 (u2 dt447 83 (((4 * (dt447 79 10)) + 2).toNat) (dt447 79 11)) 83 (((4 * (dt447 79 10)) + 3).toNat) (dt447 79 11)) 83 ((4 * (dt 79 10)) + 2).toNat = dt447 79 11 := (u2_ne (by omega)).trans w502
              have w524 : (u2 (u2 dt447 83 (((4 * (dt447 79 10)) + 2).toNat) (dt447 79 11)) 83 (((4 * (dt447 79 10)) + 3).toNat) (dt447 79 11)) 83 ((4 * (dt 79 10)) + 3).toNat = dt447 79 11 := by rw [show ((4 * (dt 79 10)) + 3).toNat = ((4 * (dt447 79 10)) + 3).toNat by first | with_reducible assumption | exact unhid (by with_reducible assumption) | omega]; exact u2_eq.trans (by rfl)
              have bk525 : ∀ j : Nat, (j : Int) < 4 * dt 79 10 → (u2 (u2 dt447 83 (((4 * (dt447 79 10)) + 2).toNat) (dt447 79 11)) 83 (((4 * (dt447 79 10)) + 3).toNat) (dt447 79 11)) 83 j = dt 83 j := fun j hj => (u2_ne (by omega)).trans (bk503 j hj)
              refine go_smpq PM173 (L' := [some (.inr (.inr (some 79))), some (.inl 1)]) (st' := []) (w' := (SH, (u2 (u2 dt447 83 (((4 * (dt447 79 10)) + 2).toNat) (dt447 79 11)) 83 (((4 * (dt447 79 10)) + 3).toNat) (dt447 79 11)))) rfl rfl (s_iast (n := 64) rfl ⟨by omega, by omega⟩ (by first | exact bnd r484 (by decide) (by decide) | exact ⟨by fail, by fail⟩)) ?_
              refine go_toq PM173 (k := 2) (pc' := 188) (L' := [some (.inr (.inr (some 79))), some (.inl 1)]) (st' := [.inl 159, .inr (.inr (some 79))]) (w' := (SH, (u2 (u2 dt447 83 (((4 * (dt447 79 10)) + 2).toNat) (dt447 79 11)) 83 (((4 * (dt447 79 10)) + 3).toNat) (dt447 79 11)))) rfl ?_
              refine go_callq PM173 PM161 (Q' := _) rfl rfl rfl rfl (sp_X6_need0_g1 L xs sio (d + 29) (u2 (u2 dt447 83 (((4 * (dt447 79 10)) + 2).toNat) (dt447 79 11)) 83 (((4 * (dt447 79 10)) + 3).toNat) (dt447 79 11)) hI506 b n t j466 (by first | exact hbb | (rw [show (u2 (u2 dt447 83 (((4 * (dt447 79 10)) + 2).toNat) (dt447 79 11)) 83 (((4 * (dt447 79 10)) + 3).toNat) (dt447 79 11)) 85 = dt 85 from funext (hF507 85 (by decide)), show (u2 (u2 dt447 83 (((4 * (dt447 79 10)) + 2).toNat) (dt447 79 11)) 83 (((4 * (dt447 79 10)) + 3).toNat) (dt447 79 11)) 79 12 = dt 79 12 by first | with_reducible assumption | exact unhid (by with_reducible assumption) | fail]; exact hbb)) (by first | with_reducible assumption | exact unhid (by with_reducible assumption) | exact Eq.trans (by with_reducible assumption) hnn | fail) hz ht hc520 hi470 hn5 159 ⟨by decide, by decide⟩ (by first | exact True.intro | with_reducible assumption | exact unhid (by with_reducible assumption) | rfl | omega | trivial)) ?_
              rintro _ _ ⟨dt527, rfl, hI528, hF529, h526⟩
              refine ⟨rfl, ?_⟩
              have hF530 : Fr [79, 83, 84] dt dt527 := Fr_tr hF507 hF529 (by decide)
              rcases h526 with ⟨rfl, h526⟩ | ⟨rfl, h526⟩
              · skip
                obtain ⟨h526_0, h526_1, h526_2, h526_3, h526_4⟩ := h526
                have w531 : dt527 79 2 = dt 79 2 := h526_1.trans w508
                have w532 : dt527 79 9 = dt 79 9 := h526_2.trans w509
                have w533 : dt527 79 10 = dt 79 10 := h526_3.trans w510
                have w534 : dt527 79 12 = dt 79 12 := h526_4.trans w512
                have kk_535 : ¬ KF 1 b n j466 = 1002 := by (have z_ := unhid u14_; omega)
                have fl536 := RSX_0 h526_0 rfl
                have fe537 : (gLF (KF 1 b n) (VF b n) (dt 79 10)) i = (gK (KF 1 b n) (159 - 100)) j466 := hp469.trans ((show (gL2 (KF 1 b n) (VF b n)) j466 = gB ((gK (KF 1 b n) (159 - 100)) j466) gOk by first | exact gB_id.symm | exact gL2_n (by omega)).trans (gB_no fl536.1))
                have w538 : dt527 83 (4 * (dt 79 10)).toNat = lnR (KF 1 b n) (VF b n) i := (hF529 83 (by decide) _).trans w521
                have w539 : dt527 83 ((4 * (dt 79 10)) + 1).toNat = dt 79 11 := (hF529 83 (by decide) _).trans w522
                have w540 : dt527 83 ((4 * (dt 79 10)) + 2).toNat = dt447 79 11 := (hF529 83 (by decide) _).trans w523
                have w541 : dt527 83 ((4 * (dt 79 10)) + 3).toNat = dt447 79 11 := (hF529 83 (by decide) _).trans w524
                have bk542 : ∀ j : Nat, (j : Int) < 4 * dt 79 10 → dt527 83 j = dt 83 j := fun j hj => (hF529 83 (by decide) j).trans (bk525 j hj)
                clear h526_1 w508 h526_2 w509 h526_3 w510 h526_4 w512
                refine go_retq PM173 (k := 0) (r := some (.inl 0)) (w1 := (SH, dt527)) rfl ?_
                exact ⟨dt527, rfl, hI528, hF530, (Or.inl ⟨rfl, ⟨by exact RSX_f fe537 fl536 (by first | rfl | with_reducible assumption | exact unhid (by with_reducible assumption) | fail) (by first | rfl | with_reducible assumption | exact unhid (by with_reducible assumption) | fail), by first | exact True.intro | with_reducible assumption | exact unhid (by with_reducible assumption) | rfl | fail | trivial, by first | exact True.intro | with_reducible assumption | exact unhid (by with_reducible assumption) | rfl | fail | trivial, by first | exact True.intro | with_reducible assumption | exact unhid (by with_reducible assumption) | rfl | fail | trivial, by first | exact True.intro | with_reducible assumption | exact unhid (by with_reducible assumption) | rfl | fail | trivial⟩⟩)⟩
              · skip
                obtain ⟨h526_0, h526_1, h526_2, h526_3, h526_4, h526_5, h526_6, h526_7, h526_8, h526_9⟩ := h526
                have w543 : dt527 79 2 = dt 79 2 := h526_3.trans w508
                have w544 : dt527 79 9 = dt 79 9 := h526_4.trans w509
                have w545 : dt527 79 10 = dt 79 10 := h526_5.trans w510
                have w546 : dt527 79 11 = dt447 79 11 := h526_6.trans w511
                have w547 : dt527 79 12 = dt 79 12 := h526_7.trans w512
                have w548 : dt527 79 17 = dt 79 17 := h526_8.trans w517
                have w549 : dt527 79 20 = 0 := h526_9.trans w519
                have kk_550 : ¬ KF 1 b n j466 = 1002 := by (have z_ := unhid u14_; omega)
                obtain ⟨j551, ej552, hc553⟩ := RSX_1 h526_0 (by decide)
                have hp554 : (gLF (KF 1 b n) (VF b n) (dt 79 10)) i = gOk j551 := hp469.trans ((show (gL2 (KF 1 b n) (VF b n)) j466 = gB ((gK (KF 1 b n) (159 - 100)) j466) gOk by first | exact gB_id.symm | exact gL2_n (by (have z_ := unhid u14_; omega))).trans (by rw [ej552]; exact gB_0))
                have hi555 : j551 ≤ t := by have z := (fun (h : KZ (KF 1 b n) t) => gK_M (K := (KF 1 b n)) (k := 159 - 100) (i := j466) h (by decide)) hz; rw [ej552] at z; have y := z rfl; simp only at y; omega
                clear cr471 cb472 cd472 cv473 ck474
                have cr556 := hid (CUR_R hc553 (.inr rfl))
                have cd557 := CUR_d (hc553)
                have cb557 := hid (CUR_b hc553)
                have cv558 := hid (CUR_v hc553)
                have ck559 := hid (KZ_lt (i := j551) hz)
                have c1560 := (hc553).1
                have ci561 := hi555
                have w562 : dt527 83 (4 * (dt 79 10)).toNat = lnR (KF 1 b n) (VF b n) i := (hF529 83 (by decide) _).trans w521
                have w563 : dt527 83 ((4 * (dt 79 10)) + 1).toNat = dt 79 11 := (hF529 83 (by decide) _).trans w522
                have w564 : dt527 83 ((4 * (dt 79 10)) + 2).toNat = dt447 79 11 := (hF529 83 (by decide) _).trans w523
                have w565 : dt527 83 ((4 * (dt 79 10)) + 3).toNat = dt447 79 11 := (hF529 83 (by decide) _).trans w524
                have bk566 : ∀ j : Nat, (j : Int) < 4 * dt 79 10 → dt527 83 j = dt 83 j := fun j hj => (hF529 83 (by decide) j).trans (bk525 j hj)
                clear h526_3 w508 h526_4 w509 h526_5 w510 h526_6 w511 h526_7 w512 h526_8 w517 h526_9 w519
                refine go_retq PM173 (k := 0) (r := some (.inl 1)) (w1 := (SH, dt527)) rfl ?_
                exact ⟨dt527, rfl, hI528, hF530, (Or.inr ⟨rfl, ⟨by exact RSX_ok (hp554.trans (by rfl)) hc553, by first | exact True.intro | with_reducible assumption | exact unhid (by with_reducible assumption) | rfl | fail | trivial, by first | exact True.intro | with_reducible assumption | exact unhid (by with_reducible assumption) | rfl | omega | trivial, by first | exact True.intro | with_reducible assumption | exact unhid (by with_reducible assumption) | rfl | omega | trivial, by first | exact True.intro | with_reducible assumption | exact unhid (by with_reducible assumption) | rfl | omega | trivial, by exact (InvC_get (by assumption) 79 15 rfl rfl).2, by first | exact LXR_m RS477 hI (by fail) (by fail) (fun j => by first | rfl | exact (hF529 84 (by decide) j).trans ((u2_ne (by fail)).trans (u2_ne (by fail)))) w562 w563 w564 (w565.trans (by fail)) | exact LXR_m RS477 (show RXD dt447 dt447 (rLb (KF 1 b n) (VF b n) (gE (KF 1 b n) (VF b n) (lnP (KF 1 b n) i)).2) from by rw [gj479, rLb_0 (by omega)]; exact RXD_sm rfl (fun _ => rfl)) (by omega) (by omega) (fun j => by first | rfl | exact (hF529 84 (by decide) j).trans ((u2_ne (by omega)).trans (u2_ne (by omega)))) w562 w563 w564 (w565.trans (by omega)), by exact bk566, by exact LXR_84 RS477 (by omega) (by first | exact hI | exact (show RXD dt447 dt447 (rLb (KF 1 b n) (VF b n) (gE (KF 1 b n) (VF b n) (lnP (KF 1 b n) i)).2) from by rw [gj479, rLb_0 (by omega)]; exact RXD_sm rfl (fun _ => rfl))) (fun j => by first | rfl | exact (hF529 84 (by decide) j).trans ((u2_ne (by omega)).trans (u2_ne (by omega)))), by first | exact True.intro | with_reducible assumption | exact unhid (by with_reducible assumption) | rfl | fail | trivial, by first | exact True.intro | with_reducible assumption | exact unhid (by with_reducible assumption) | rfl | fail | trivial, by first | exact True.intro | with_reducible assumption | exact unhid (by with_reducible assumption) | rfl | fail | trivial, by first | exact True.intro | with_reducible assumption | exact unhid (by with_reducible assumption) | rfl | fail | trivial, by first | exact True.intro | with_reducible assumption | exact unhid (by with_reducible assumption) | rfl | fail | trivial⟩⟩)⟩
            · skip
              refine go_toq PM173 (k := 1) (pc' := 155) (L' := [some (.inr (.inr (some 79))), some (.inl 1)]) (st' := [.inr (.inr (some 79))]) (w' := (SH, (u2 dt447 83 (((4 * (dt447 79 10)) + 2).toNat) (dt447 79 11)))) rfl ?_
              refine go_callq PM173 PM159 (Q' := _) rfl rfl rfl rfl (sp_X6_next0_p1 L xs sio (d + 30) (u2 dt447 83 (((4 * (dt447 79 10)) + 2).toNat) (dt447 79 11)) hI485   (by first | exact True.intro | with_reducible assumption | exact unhid (by with_reducible assumption) | rfl | omega | trivial) (by first | exact True.intro | with_reducible assumption | exact unhid (by with_reducible assumption) | rfl | omega | trivial)) ?_
              rintro _ _ ⟨dt568, rfl, hI569, hF570, h567⟩
              refine ⟨rfl, ?_⟩
              have hF571 : Fr [79, 83, 84] dt dt568 := Fr_tr hF486 hF570 (by decide)
              rcases h567 with ⟨rfl, h567⟩
              obtain ⟨h567_0, h567_1, h567_2, h567_3, h567_4, h567_5, h567_6, h567_7, h567_8⟩ := h567
              have w572 : dt568 79 2 = dt 79 2 := h567_2.trans w487
              have w573 : dt568 79 9 = dt 79 9 := h567_3.trans w488
              have w574 : dt568 79 10 = dt 79 10 := h567_4.trans w489
              have w575 : dt568 79 11 = dt447 79 11 := h567_5.trans w490
              have w576 : dt568 79 12 = dt 79 12 := h567_6.trans w491
              have w577 : dt568 79 17 = dt 79 17 := h567_7.trans w496
              have w578 : dt568 79 20 = 0 := h567_8.trans w498
              have hq579 := h567_0
              rw [show (u2 dt447 83 (((4 * (dt447 79 10)) + 2).toNat) (dt447 79 11)) 85 = dt 85 from funext (hF486 85 (by decide)), show (u2 dt447 83 (((4 * (dt447 79 10)) + 2).toNat) (dt447 79 11)) 79 12 = dt 79 12 by first | with_reducible assumption | exact unhid (by with_reducible assumption) | fail, hbb, show (dt 79 12).toNat = n from (congrArg Int.toNat hnn).trans (Int.toNat_natCast n)] at hq579
              have hc580 : CUR 1 b n dt568 (j466 + 1) := CUR_n hc499 hq579
              have hi581 : j466 + 1 ≤ t := by (have z_ := unhid u13_; omega)
              have av582 : (u2 dt447 83 (((4 * (dt447 79 10)) + 2).toNat) (dt447 79 11)) 79 15 + 1 ≤ (u2 dt447 83 (((4 * (dt447 79 10)) + 2).toNat) (dt447 79 11)) 79 13 := by (have z_ := unhid u13_; omega)
              have kk_583 : KF 1 b n j466 = 1002 := by (have z_ := unhid u13_; omega)
              have hp584 : (gLF (KF 1 b n) (VF b n) (dt 79 10)) i = (fun i => gB (gB_ (KF 1 b n) (VF b n) 8 i) (gK (KF 1 b n) 59)) (j466 + 1) := hp469.trans (by exact gL2_w (by (have z_ := unhid u13_; omega)))
              clear cr471 cb472 cd472 cv473 ck474
              have cr585 := hid (CUR_R hc580 (.inr rfl))
              have cd586 := CUR_d (hc580)
              have cb586 := hid (CUR_b hc580)
              have cv587 := hid (CUR_v hc580)
              have ck588 := hid (KZ_lt (i := (j466 + 1)) hz)
              have c1589 := (hc580).1
              have ci590 := hi581
              have w591 : dt568 83 (4 * (dt 79 10)).toNat = lnR (KF 1 b n) (VF b n) i := (hF570 83 (by decide) _).trans w500
              have w592 : dt568 83 ((4 * (dt 79 10)) + 1).toNat = dt 79 11 := (hF570 83 (by decide) _).trans w501
              have w593 : dt568 83 ((4 * (dt 79 10)) + 2).toNat = dt447 79 11 := (hF570 83 (by decide) _).trans w502
              have bk594 : ∀ j : Nat, (j : Int) < 4 * dt 79 10 → dt568 83 j = dt 83 j := fun j hj => (hF570 83 (by decide) j).trans (bk503 j hj)
              clear h567_2 w487 h567_3 w488 h567_4 w489 h567_5 w490 h567_6 w491 h567_7 w496 h567_8 w498
              refine go_toq PM173 (k := 1) (pc' := 159) (L' := [some (.inr (.inr (some 79))), some (.inl 1)]) (st' := [.inr (.inr (some 79))]) (w' := (SH, dt568)) rfl ?_
              refine go_callq PM173 PM168 (Q' := _) rfl rfl rfl rfl (sp_X6_any_g0 L xs sio (d + 0) dt568 hI569 b n t (j466 + 1) (by first | exact hbb | (rw [show dt568 85 = dt 85 from funext (hF571 85 (by decide)), show dt568 79 12 = dt 79 12 by first | with_reducible assumption | exact unhid (by with_reducible assumption) | fail]; exact hbb)) (by first | with_reducible assumption | exact unhid (by with_reducible assumption) | exact Eq.trans (by with_reducible assumption) hnn | fail) hz ht hc580 hi581 hn5  (by first | exact True.intro | with_reducible assumption | exact unhid (by with_reducible assumption) | rfl | omega | trivial) (by first | exact True.intro | with_reducible assumption | exact unhid (by with_reducible assumption) | rfl | omega | trivial) (by first | exact True.intro | with_reducible assumption | exact unhid (by with_reducible assumption) | rfl | fail | trivial)) ?_
              rintro _ _ ⟨dt596, rfl, hI597, hF598, h595⟩
              refine ⟨rfl, ?_⟩
              have hF599 : Fr [79, 83, 84] dt dt596 := Fr_tr hF571 hF598 (by decide)
              rcases h595 with ⟨rfl, h595⟩ | ⟨rfl, h595⟩
              · skip
                obtain ⟨h595_0, h595_1, h595_2, h595_3, h595_4⟩ := h595
                have w600 : dt596 79 2 = dt 79 2 := h595_1.trans w572
                have w601 : dt596 79 9 = dt 79 9 := h595_2.trans w573
                have w602 : dt596 79 10 = dt 79 10 := h595_3.trans w574
                have w603 : dt596 79 12 = dt 79 12 := h595_4.trans w576
                have fl604 := RSX_0 h595_0 rfl
                have fe605 : (gLF (KF 1 b n) (VF b n) (dt 79 10)) i = (gB_ (KF 1 b n) (VF b n) 8) (j466 + 1) := hp584.trans ((show (fun i => gB (gB_ (KF 1 b n) (VF b n) 8 i) (gK (KF 1 b n) 59)) (j466 + 1) = gB ((gB_ (KF 1 b n) (VF b n) 8) (j466 + 1)) (gK (KF 1 b n) 59) by rfl).trans (gB_no fl604.1))
                have w606 : dt596 83 (4 * (dt 79 10)).toNat = lnR (KF 1 b n) (VF b n) i := (hF598 83 (by decide) _).trans w591
                have w607 : dt596 83 ((4 * (dt 79 10)) + 1).toNat = dt 79 11 := (hF598 83 (by decide) _).trans w592
                have w608 : dt596 83 ((4 * (dt 79 10)) + 2).toNat = dt447 79 11 := (hF598 83 (by decide) _).trans w593
                have bk609 : ∀ j : Nat, (j : Int) < 4 * dt 79 10 → dt596 83 j = dt 83 j := fun j hj => (hF598 83 (by decide) j).trans (bk594 j hj)
                clear h595_1 w572 h595_2 w573 h595_3 h595_4 w576
                refine go_retq PM173 (k := 2) (r := some (.inl 0)) (w1 := (SH, dt596)) rfl ?_
                exact ⟨dt596, rfl, hI597, hF599, (Or.inl ⟨rfl, ⟨by exact RSX_f fe605 fl604 (by first | rfl | with_reducible assumption | exact unhid (by with_reducible assumption) | fail) (by first | rfl | with_reducible assumption | exact unhid (by with_reducible assumption) | fail), by first | exact True.intro | with_reducible assumption | exact unhid (by with_reducible assumption) | rfl | fail | trivial, by first | exact True.intro | with_reducible assumption | exact unhid (by with_reducible assumption) | rfl | fail | trivial, by first | exact True.intro | with_reducible assumption | exact unhid (by with_reducible assumption) | rfl | fail | trivial, by first | exact True.intro | with_reducible assumption | exact unhid (by with_reducible assumption) | rfl | fail | trivial⟩⟩)⟩
              · skip
                obtain ⟨h595_0, h595_1, h595_2, h595_3, h595_4, h595_5, h595_6, h595_7, h595_8, h595_9, h595_10⟩ := h595
                have w610 : dt596 79 2 = dt 79 2 := h595_5.trans w572
                have w611 : dt596 79 9 = dt 79 9 := h595_6.trans w573
                have w612 : dt596 79 10 = dt 79 10 := h595_7.trans w574
                have w613 : dt596 79 12 = dt 79 12 := h595_8.trans w576
                have w614 : dt596 79 17 = dt 79 17 := h595_9.trans w577
                have w615 : dt596 79 20 = 0 := h595_10.trans w578
                obtain ⟨j616, ej617, hc618⟩ := RSX_1 h595_0 (by decide)
                have hp619 : (gLF (KF 1 b n) (VF b n) (dt 79 10)) i = (gK (KF 1 b n) 59) j616 := hp584.trans ((show (fun i => gB (gB_ (KF 1 b n) (VF b n) 8 i) (gK (KF 1 b n) 59)) (j466 + 1) = gB ((gB_ (KF 1 b n) (VF b n) 8) (j466 + 1)) (gK (KF 1 b n) 59) by rfl).trans (by rw [ej617]; exact gB_0))
                have hi620 : j616 ≤ t := by have z := gB__M (K := (KF 1 b n)) (V := (VF b n)) (d := 8) (i := (j466 + 1)) hz; rw [ej617] at z; have y := z rfl; simp only at y; omega
                clear cr585 cb586 cd586 cv587 ck588
                have cr621 := hid (CUR_R hc618 (.inr rfl))
                have cd622 := CUR_d (hc618)
                have cb622 := hid (CUR_b hc618)
                have cv623 := hid (CUR_v hc618)
                have ck624 := hid (KZ_lt (i := j616) hz)
                have c1625 := (hc618).1
                have ci626 := hi620
                have u17_ := hid (And.intro (unhid c7) (And.intro (unhid cr621) (And.intro (unhid cb622) (And.intro (unhid cv623) (unhid ck624)))))
                have RB627 : RXD dt447 dt596 (rLb (KF 1 b n) (VF b n) (gE (KF 1 b n) (VF b n) (lnP (KF 1 b n) i)).2) := by rw [gj479, rLb_1 (by omega)]; exact RXD_l (by omega) (fun j => (hF570 84 (by decide) j).trans (u2_ne (by omega))) h595_4
                have w628 : dt596 83 (4 * (dt 79 10)).toNat = lnR (KF 1 b n) (VF b n) i := (hF598 83 (by decide) _).trans w591
                have w629 : dt596 83 ((4 * (dt 79 10)) + 1).toNat = dt 79 11 := (hF598 83 (by decide) _).trans w592
                have w630 : dt596 83 ((4 * (dt 79 10)) + 2).toNat = dt447 79 11 := (hF598 83 (by decide) _).trans w593
                have bk631 : ∀ j : Nat, (j : Int) < 4 * dt 79 10 → dt596 83 j = dt 83 j := fun j hj => (hF598 83 (by decide) j).trans (bk594 j hj)
                clear h595_5 w572 h595_6 w573 h595_7 h595_8 w576 h595_9 w577 h595_10 w578
                have r632 : 0 ≤ dt596 79 10 ∧ dt596 79 10 ≤ 24 := InvC_get hI597 79 10 rfl rfl
                have r633 : 0 ≤ dt596 79 11 ∧ dt596 79 11 ≤ 510 := InvC_get hI597 79 11 rfl rfl
                refine go_toq PM173 (k := 11) (pc' := 183) (L' := [some (.inr (.inr (some 79))), some (.inl 1)]) (st' := [.inl (dt596 79 11), .inl ((4 * (dt596 79 10)) + 3), .inr (.inr (some 83))]) (w' := (SH, dt596)) rfl ?_
                have hI634 : InvC (u2 dt596 83 (((4 * (dt596 79 10)) + 3).toNat) (dt596 79 11)) := InvC_u2 hI597 (lo := -2147483648) (hi := 2147483647) rfl rfl rfl (by first | exact bnd1 r633 (by decide) | fail) (by first | exact bnd2 r633 (by decide) | fail)
                have hF635 : Fr [79, 83, 84] dt (u2 dt596 83 (((4 * (dt596 79 10)) + 3).toNat) (dt596 79 11)) := Fr_u2 hF599 (by decide)
                have w636 : (u2 dt596 83 (((4 * (dt596 79 10)) + 3).toNat) (dt596 79 11)) 79 2 = dt 79 2 := w610
                have w637 : (u2 dt596 83 (((4 * (dt596 79 10)) + 3).toNat) (dt596 79 11)) 79 9 = dt 79 9 := w611
                have w638 : (u2 dt596 83 (((4 * (dt596 79 10)) + 3).toNat) (dt596 79 11)) 79 10 = dt 79 10 := w612
                have w639 : (u2 dt596 83 (((4 * (dt596 79 10)) + 3).toNat) (dt596 79 11)) 79 11 = dt596 79 11 := rfl
                have w640 : (u2 dt596 83 (((4 * (dt596 79 10)) + 3).toNat) (dt596 79 11)) 79 12 = dt 79 12 := w613
                have w641 : (u2 dt596 83 (((4 * (dt596 79 10)) + 3).toNat) (dt596 79 11)) 79 13 = dt596 79 13 := rfl
                have w642 : (u2 dt596 83 (((4 * (dt596 79 10)) + 3).toNat) (dt596 79 11)) 79 14 = dt596 79 14 := rfl
                have w643 : (u2 dt596 83 (((4 * (dt596 79 10)) + 3).toNat) (dt596 79 11)) 79 15 = dt596 79 15 := rfl
                have w644 : (u2 dt596 83 (((4 * (dt596 79 10)) + 3).toNat) (dt596 79 11)) 79 16 = dt596 79 16 := rfl
                have w645 : (u2 dt596 83 (((4 * (dt596 79 10)) + 3).toNat) (dt596 79 11)) 79 17 = dt 79 17 := w614
                have w646 : (u2 dt596 83 (((4 * (dt596 79 10)) + 3).toNat) (dt596 79 11)) 79 18 = dt596 79 18 := rfl
                have w647 : (u2 dt596 83 (((4 * (dt596 79 10)) + 3).toNat) (dt596 79 11)) 79 20 = 0 := w615
                have hc648 : CUR 1 b n (u2 dt596 83 (((4 * (dt596 79 10)) + 3).toNat) (dt596 79 11)) j616 := CUR_sm hc618 rfl rfl rfl rfl
                have w649 : (u2 dt596 83 (((4 * (dt596 79 10)) + 3).toNat) (dt596 79 11)) 83 (4 * (dt 79 10)).toNat = lnR (KF 1 b n) (VF b n) i := (u2_ne (by omega)).trans w628
                have w650 : (u2 dt596 83 (((4 * (dt596 79 10)) + 3).toNat) (dt596 79 11)) 83 ((4 * (dt 79 10)) + 1).toNat = dt 79 11 := (u2_ne (by omega)).trans w629
                have w651 : (u2 dt596 83 (((4 * (dt596 79 10)) + 3).toNat) (dt596 79 11)) 83 ((4 * (dt 79 10)) + 2).toNat = dt447 79 11 := (u2_ne (by omega)).trans w630
                have w652 : (u2 dt596 83 (((4 * (dt596 79 10)) + 3).toNat) (dt596 79 11)) 83 ((4 * (dt 79 10)) + 3).toNat = dt596 79 11 := by rw [show ((4 * (dt 79 10)) + 3).toNat = ((4 * (dt596 79 10)) + 3).toNat by first | with_reducible assumption | exact unhid (by with_reducible assumption) | omega]; exact u2_eq.trans (by rfl)
                have bk653 : ∀ j : Nat, (j : Int) < 4 * dt 79 10 → (u2 dt596 83 (((4 * (dt596 79 10)) + 3).toNat) (dt596 79 11)) 83 j = dt 83 j := fun j hj => (u2_ne (by omega)).trans (bk631 j hj)
                refine go_smpq PM173 (L' := [some (.inr (.inr (some 79))), some (.inl 1)]) (st' := []) (w' := (SH, (u2 dt596 83 (((4 * (dt596 79 10)) + 3).toNat) (dt596 79 11)))) rfl rfl (s_iast (n := 64) rfl ⟨by omega, by omega⟩ (by first | exact bnd r633 (by decide) (by decide) | exact ⟨by fail, by fail⟩)) ?_
                refine go_toq PM173 (k := 2) (pc' := 188) (L' := [some (.inr (.inr (some 79))), some (.inl 1)]) (st' := [.inl 159, .inr (.inr (some 79))]) (w' := (SH, (u2 dt596 83 (((4 * (dt596 79 10)) + 3).toNat) (dt596 79 11)))) rfl ?_
                refine go_callq PM173 PM161 (Q' := _) rfl rfl rfl rfl (sp_X6_need0_g1 L xs sio (d + 29) (u2 dt596 83 (((4 * (dt596 79 10)) + 3).toNat) (dt596 79 11)) hI634 b n t j616 (by first | exact hbb | (rw [show (u2 dt596 83 (((4 * (dt596 79 10)) + 3).toNat) (dt596 79 11)) 85 = dt 85 from funext (hF635 85 (by decide)), show (u2 dt596 83 (((4 * (dt596 79 10)) + 3).toNat) (dt596 79 11)) 79 12 = dt 79 12 by first | with_reducible assumption | exact unhid (by with_reducible assumption) | fail]; exact hbb)) (by first | with_reducible assumption | exact unhid (by with_reducible assumption) | exact Eq.trans (by with_reducible assumption) hnn | fail) hz ht hc648 hi620 hn5 159 ⟨by decide, by decide⟩ (by first | exact True.intro | with_reducible assumption | exact unhid (by with_reducible assumption) | rfl | omega | trivial)) ?_
                rintro _ _ ⟨dt655, rfl, hI656, hF657, h654⟩
                refine ⟨rfl, ?_⟩
                have hF658 : Fr [79, 83, 84] dt dt655 := Fr_tr hF635 hF657 (by decide)
                rcases h654 with ⟨rfl, h654⟩ | ⟨rfl, h654⟩
                · skip
                  obtain ⟨h654_0, h654_1, h654_2, h654_3, h654_4⟩ := h654
                  have w659 : dt655 79 2 = dt 79 2 := h654_1.trans w636
                  have w660 : dt655 79 9 = dt 79 9 := h654_2.trans w637
                  have w661 : dt655 79 10 = dt 79 10 := h654_3.trans w638
                  have w662 : dt655 79 12 = dt 79 12 := h654_4.trans w640
                  have fl663 := RSX_0 h654_0 rfl
                  have fe664 : (gLF (KF 1 b n) (VF b n) (dt 79 10)) i = (gK (KF 1 b n) (159 - 100)) j616 := hp619.trans ((show (gK (KF 1 b n) 59) j616 = gB ((gK (KF 1 b n) (159 - 100)) j616) gOk by first | exact gB_id.symm | exact gL2_n (by fail)).trans (gB_no fl663.1))
                  have w665 : dt655 83 (4 * (dt 79 10)).toNat = lnR (KF 1 b n) (VF b n) i := (hF657 83 (by decide) _).trans w649
                  have w666 : dt655 83 ((4 * (dt 79 10)) + 1).toNat = dt 79 11 := (hF657 83 (by decide) _).trans w650
                  have w667 : dt655 83 ((4 * (dt 79 10)) + 2).toNat = dt447 79 11 := (hF657 83 (by decide) _).trans w651
                  have w668 : dt655 83 ((4 * (dt 79 10)) + 3).toNat = dt596 79 11 := (hF657 83 (by decide) _).trans w652
                  have bk669 : ∀ j : Nat, (j : Int) < 4 * dt 79 10 → dt655 83 j = dt 83 j := fun j hj => (hF657 83 (by decide) j).trans (bk653 j hj)
                  clear h654_1 w636 h654_2 w637 h654_3 w638 h654_4 w640
                  refine go_retq PM173 (k := 0) (r := some (.inl 0)) (w1 := (SH, dt655)) rfl ?_
                  exact ⟨dt655, rfl, hI656, hF658, (Or.inl ⟨rfl, ⟨by exact RSX_f fe664 fl663 (by first | rfl | with_reducible assumption | exact unhid (by with_reducible assumption) | fail) (by first | rfl | with_reducible assumption | exact unhid (by with_reducible assumption) | fail), by first | exact True.intro | with_reducible assumption | exact unhid (by with_reducible assumption) | rfl | fail | trivial, by first | exact True.intro | with_reducible assumption | exact unhid (by with_reducible assumption) | rfl | fail | trivial, by first | exact True.intro | with_reducible assumption | exact unhid (by with_reducible assumption) | rfl | fail | trivial, by first | exact True.intro | with_reducible assumption | exact unhid (by with_reducible assumption) | rfl | fail | trivial⟩⟩)⟩
                · skip
                  obtain ⟨h654_0, h654_1, h654_2, h654_3, h654_4, h654_5, h654_6, h654_7, h654_8, h654_9⟩ := h654
                  have w670 : dt655 79 2 = dt 79 2 := h654_3.trans w636
                  have w671 : dt655 79 9 = dt 79 9 := h654_4.trans w637
                  have w672 : dt655 79 10 = dt 79 10 := h654_5.trans w638
                  have w673 : dt655 79 11 = dt596 79 11 := h654_6.trans w639
                  have w674 : dt655 79 12 = dt 79 12 := h654_7.trans w640
                  have w675 : dt655 79 17 = dt 79 17 := h654_8.trans w645
                  have w676 : dt655 79 20 = 0 := h654_9.trans w647
                  obtain ⟨j677, ej678, hc679⟩ := RSX_1 h654_0 (by decide)
                  have hp680 : (gLF (KF 1 b n) (VF b n) (dt 79 10)) i = gOk j677 := hp619.trans ((show (gK (KF 1 b n) 59) j616 = gB ((gK (KF 1 b n) (159 - 100)) j616) gOk by first | exact gB_id.symm | exact gL2_n (by (have z_ := unhid u17_; fail))).trans (by rw [ej678]; exact gB_0))
                  have hi681 : j677 ≤ t := by have z := (fun (h : KZ (KF 1 b n) t) => gK_M (K := (KF 1 b n)) (k := 159 - 100) (i := j616) h (by decide)) hz; rw [ej678] at z; have y := z rfl; simp only at y; omega
                  clear cr621 cb622 cd622 cv623 ck624
                  have cr682 := hid (CUR_R hc679 (.inr rfl))
                  have cd683 := CUR_d (hc679)
                  have cb683 := hid (CUR_b hc679)
                  have cv684 := hid (CUR_v hc679)
                  have ck685 := hid (KZ_lt (i := j677) hz)
                  have c1686 := (hc679).1
                  have ci687 := hi681
                  have w688 : dt655 83 (4 * (dt 79 10)).toNat = lnR (KF 1 b n) (VF b n) i := (hF657 83 (by decide) _).trans w649
                  have w689 : dt655 83 ((4 * (dt 79 10)) + 1).toNat = dt 79 11 := (hF657 83 (by decide) _).trans w650
                  have w690 : dt655 83 ((4 * (dt 79 10)) + 2).toNat = dt447 79 11 := (hF657 83 (by decide) _).trans w651
                  have w691 : dt655 83 ((4 * (dt 79 10)) + 3).toNat = dt596 79 11 := (hF657 83 (by decide) _).trans w652
                  have bk692 : ∀ j : Nat, (j : Int) < 4 * dt 79 10 → dt655 83 j = dt 83 j := fun j hj => (hF657 83 (by decide) j).trans (bk653 j hj)
                  clear h654_3 w636 h654_4 w637 h654_5 w638 h654_6 w639 h654_7 w640 h654_8 w645 h654_9 w647
                  refine go_retq PM173 (k := 0) (r := some (.inl 1)) (w1 := (SH, dt655)) rfl ?_
                  exact ⟨dt655, rfl, hI656, hF658, (Or.inr ⟨rfl, ⟨by exact RSX_ok (hp680.trans (by rfl)) hc679, by first | exact True.intro | with_reducible assumption | exact unhid (by with_reducible assumption) | rfl | fail | trivial, by first | exact True.intro | with_reducible assumption | exact unhid (by with_reducible assumption) | rfl | omega | trivial, by first | exact True.intro | with_reducible assumption | exact unhid (by with_reducible assumption) | rfl | omega | trivial, by first | exact True.intro | with_reducible assumption | exact unhid (by with_reducible assumption) | rfl | omega | trivial, by exact (InvC_get (by assumption) 79 15 rfl rfl).2, by first | exact LXR_m RS477 RB627 (by omega) (by omega) (fun j => by first | rfl | exact (hF657 84 (by decide) j).trans (u2_ne (by omega))) w688 w689 w690 (w691.trans (by omega)) | exact LXR_m RS477 (show RXD dt447 dt447 (rLb (KF 1 b n) (VF b n) (gE (KF 1 b n) (VF b n) (lnP (KF 1 b n) i)).2) from by rw [gj479, rLb_0 (by fail)]; exact RXD_sm rfl (fun _ => rfl)) (by fail) (by fail) (fun j => by first | rfl | exact (hF657 84 (by decide) j).trans (u2_ne (by fail))) w688 w689 w690 (w691.trans (by fail)), by exact bk692, by exact LXR_84 RS477 (by omega) (by first | exact RB627 | exact (show RXD dt447 dt447 (rLb (KF 1 b n) (VF b n) (gE (KF 1 b n) (VF b n) (lnP (KF 1 b n) i)).2) from by rw [gj479, rLb_0 (by fail)]; exact RXD_sm rfl (fun _ => rfl))) (fun j => by first | rfl | exact (hF657 84 (by decide) j).trans (u2_ne (by omega))), by first | exact True.intro | with_reducible assumption | exact unhid (by with_reducible assumption) | rfl | fail | trivial, by first | exact True.intro | with_reducible assumption | exact unhid (by with_reducible assumption) | rfl | fail | trivial, by first | exact True.intro | with_reducible assumption | exact unhid (by with_reducible assumption) | rfl | fail | trivial, by first | exact True.intro | with_reducible assumption | exact unhid (by with_reducible assumption) | rfl | fail | trivial, by first | exact True.intro | with_reducible assumption | exact unhid (by with_reducible assumption) | rfl | fail | trivial⟩⟩)⟩
    · skip
      refine go_toq PM173 (k := 2) (pc' := 35) (L' := [some (.inr (.inr (some 79))), none]) (st' := [.inl 3, .inr (.inr (some 79))]) (w' := (SH, dt)) rfl ?_
      refine go_callq PM173 PM160 (Q' := _) rfl rfl rfl rfl (sp_X6_bad_g L xs sio (d + 36) dt hI  3 ⟨by decide, by decide⟩ ) ?_
      rintro _ _ ⟨dt694, rfl, hI695, hF696, h693⟩
      refine ⟨rfl, ?_⟩
      have hF697 : Fr [79, 83, 84] dt dt694 := Fr_tr hF hF696 (by decide)
      rcases h693 with ⟨rfl, h693⟩
      obtain ⟨h693_0, h693_1, h693_2, h693_3, h693_4, h693_5, h693_6, h693_7, h693_8, h693_9, h693_10, h693_11⟩ := h693
      have w698 : dt694 79 2 = dt 79 2 := h693_2
      have w699 : dt694 79 9 = dt 79 9 := h693_3
      have w700 : dt694 79 10 = dt 79 10 := h693_4
      have w701 : dt694 79 11 = dt 79 11 := h693_5
      have w702 : dt694 79 12 = dt 79 12 := h693_6
      have w703 : dt694 79 13 = dt 79 13 := h693_7
      have w704 : dt694 79 14 = dt 79 14 := h693_8
      have w705 : dt694 79 15 = dt 79 15 := h693_9
      have w706 : dt694 79 16 = dt 79 16 := h693_10
      have w707 : dt694 79 20 = dt 79 20 := h693_11
      have hc708 : CUR 1 b n dt694 i := CUR_sm hc (by first | with_reducible assumption | exact unhid (by with_reducible assumption) | rfl | fail) (by first | with_reducible assumption | exact unhid (by with_reducible assumption) | rfl | fail) (by first | with_reducible assumption | exact unhid (by with_reducible assumption) | rfl | fail) (by first | with_reducible assumption | exact unhid (by with_reducible assumption) | rfl | fail)
      have bk709 : ∀ j : Nat, (j : Int) < 4 * dt 79 10 → dt694 83 j = dt 83 j := fun j hj => (hF696 83 (by decide) j).trans ((fun _ _ => rfl) j hj)
      clear h693_2 h693_3 h693_4 h693_5 h693_6 h693_7 h693_8 h693_9 h693_10 h693_11
      refine go_retq PM173 (k := 0) (r := some (.inl 0)) (w1 := (SH, dt694)) rfl ?_
      exact ⟨dt694, rfl, hI695, hF697, (Or.inl ⟨rfl, ⟨by exact RSX_no (k := 3) (j := i) ((rfl : (gLF (KF 1 b n) (VF b n) (dt 79 10)) i = (gLF (KF 1 b n) (VF b n) (dt 79 10)) i).trans (by show gLF _ _ _ _ = _; unfold gLF; rw [if_neg (by (have z_ := unhid cr0; omega)), if_pos (by omega)])) (by decide) (by omega) (by show _ = ((TP b n i : Nat) : Int); omega), by first | exact True.intro | with_reducible assumption | exact unhid (by with_reducible assumption) | rfl | fail | trivial, by first | exact True.intro | with_reducible assumption | exact unhid (by with_reducible assumption) | rfl | fail | trivial, by first | exact True.intro | with_reducible assumption | exact unhid (by with_reducible assumption) | rfl | fail | trivial, by first | exact True.intro | with_reducible assumption | exact unhid (by with_reducible assumption) | rfl | fail | trivial⟩⟩)⟩
  · skip
    replace c6 := hid c6
    refine go_ifq PM173 (k := 3) (p1 := 24) (p2 := 18) (L' := [some (.inr (.inr (some 79))), none]) (st' := []) (w' := (SH, dt)) rfl (c_eq (a := dt 79 14) (b := 8) (by first | exact bnd r5 (by decide) (by decide) | exact ⟨by fail, by fail⟩) ⟨by decide, by decide⟩) (fun c710 => ?_) (fun c710 => ?_)
    · skip
      refine go_ifq PM173 (k := 3) (p1 := 39) (p2 := 33) (L' := [some (.inr (.inr (some 79))), none]) (st' := []) (w' := (SH, dt)) rfl (c_ne (a := dt 79 10) (b := 16) (by first | exact bnd r3 (by decide) (by decide) | exact ⟨by fail, by fail⟩) ⟨by decide, by decide⟩) (fun c711 => ?_) (fun c711 => ?_)
      · skip
        have qc711 : dt 79 10 ≤ 15 := by omega
        replace c711 := hid c711
        refine go_ifq PM173 (k := 3) (p1 := 52) (p2 := 48) (L' := [some (.inr (.inr (some 79))), none]) (st' := []) (w' := (SH, dt)) rfl (c_ne (a := dt 79 14) (b := 7) (by first | exact bnd r5 (by decide) (by decide) | exact ⟨by fail, by fail⟩) ⟨by decide, by decide⟩) (fun c712 => ?_) (fun c712 => ?_)
        · skip
          replace c712 := hid c712
          refine go_toq PM173 (k := 4) (pc' := 56) (L' := [some (.inr (.inr (some 79))), some (.inl 0)]) (st' := [.inl 0, .inr (.inr (some 79))]) (w' := (SH, dt)) rfl ?_
          have hI713 : InvC (u2 dt 79 20 0) := InvC_u2 hI (lo := 0) (hi := 8) rfl rfl rfl (by decide) (by decide)
          have hF714 : Fr [79, 83, 84] dt (u2 dt 79 20 0) := Fr_u2 hF (by decide)
          have w715 : (u2 dt 79 20 0) 79 2 = dt 79 2 := rfl
          have w716 : (u2 dt 79 20 0) 79 9 = dt 79 9 := rfl
          have w717 : (u2 dt 79 20 0) 79 10 = dt 79 10 := rfl
          have w718 : (u2 dt 79 20 0) 79 11 = dt 79 11 := rfl
          have w719 : (u2 dt 79 20 0) 79 12 = dt 79 12 := rfl
          have w720 : (u2 dt 79 20 0) 79 13 = dt 79 13 := rfl
          have w721 : (u2 dt 79 20 0) 79 14 = dt 79 14 := rfl
          have w722 : (u2 dt 79 20 0) 79 15 = dt 79 15 := rfl
          have w723 : (u2 dt 79 20 0) 79 16 = dt 79 16 := rfl
          have w724 : (u2 dt 79 20 0) 79 17 = dt 79 17 := rfl
          have w725 : (u2 dt 79 20 0) 79 18 = dt 79 18 := rfl
          have w726 : (u2 dt 79 20 0) 79 20 = 0 := rfl
          have hc727 : CUR 1 b n (u2 dt 79 20 0) i := CUR_sm hc rfl rfl rfl rfl
          have u21_ := hid (And.intro (unhid cr0) (And.intro (unhid cb0) (And.intro (unhid cv0) (And.intro (unhid ck0) (And.intro (unhid c6) (And.intro (unhid c711) (unhid c712)))))))
          have bk728 : ∀ j : Nat, (j : Int) < 4 * dt 79 10 → (u2 dt 79 20 0) 83 j = dt 83 j := fun j hj => (u2_ne (by omega)).trans ((fun _ _ => rfl) j hj)
          refine go_smpq PM173 (L' := [some (.inr (.inr (some 79))), some (.inl 0)]) (st' := []) (w' := (SH, (u2 dt 79 20 0))) rfl rfl (s_pf rfl rfl rfl rfl ⟨by decide, by decide⟩) ?_
          refine go_toq PM173 (k := 1) (pc' := 60) (L' := [some (.inr (.inr (some 79))), some (.inl 0)]) (st' := [.inr (.inr (some 79))]) (w' := (SH, (u2 dt 79 20 0))) rfl ?_
          refine go_callq PM173 PM159 (Q' := _) rfl rfl rfl rfl (sp_X6_next0_p1 L xs sio (d + 30) (u2 dt 79 20 0) hI713   (by first | exact True.intro | with_reducible assumption | exact unhid (by with_reducible assumption) | rfl | omega | trivial) (by first | exact True.intro | with_reducible assumption | exact unhid (by with_reducible assumption) | rfl | omega | trivial)) ?_
          rintro _ _ ⟨dt730, rfl, hI731, hF732, h729⟩
          refine ⟨rfl, ?_⟩
          have hF733 : Fr [79, 83, 84] dt dt730 := Fr_tr hF714 hF732 (by decide)
          rcases h729 with ⟨rfl, h729⟩
          obtain ⟨h729_0, h729_1, h729_2, h729_3, h729_4, h729_5, h729_6, h729_7, h729_8⟩ := h729
          have w734 : dt730 79 2 = dt 79 2 := h729_2.trans w715
          have w735 : dt730 79 9 = dt 79 9 := h729_3.trans w716
          have w736 : dt730 79 10 = dt 79 10 := h729_4.trans w717
          have w737 : dt730 79 11 = dt 79 11 := h729_5.trans w718
          have w738 : dt730 79 12 = dt 79 12 := h729_6.trans w719
          have w739 : dt730 79 17 = dt 79 17 := h729_7.trans w724
          have w740 : dt730 79 20 = 0 := h729_8.trans w726
          have hq741 := h729_0
          rw [show (u2 dt 79 20 0) 85 = dt 85 from funext (hF714 85 (by decide)), show (u2 dt 79 20 0) 79 12 = dt 79 12 by first | with_reducible assumption | exact unhid (by with_reducible assumption) | fail, hbb, show (dt 79 12).toNat = n from (congrArg Int.toNat hnn).trans (Int.toNat_natCast n)] at hq741
          have hc742 : CUR 1 b n dt730 (i + 1) := CUR_n hc727 hq741
          have hi743 : i + 1 ≤ t := by (have z_ := unhid u21_; omega)
          have av744 : (u2 dt 79 20 0) 79 15 + 1 ≤ (u2 dt 79 20 0) 79 13 := by (have z_ := unhid u21_; omega)
          have kk_ : KF 1 b n i = 1001 := by (have z_ := unhid u21_; omega)
          have hp745 : (gLF (KF 1 b n) (VF b n) (dt 79 10)) i = (gL1 (KF 1 b n) (VF b n)) (i + 1) := (rfl : (gLF (KF 1 b n) (VF b n) (dt 79 10)) i = (gLF (KF 1 b n) (VF b n) (dt 79 10)) i).trans (by show gLF _ _ _ _ = _; unfold gLF; rw [if_neg (by (have z_ := unhid u21_; omega)), if_neg (by (have z_ := unhid u21_; omega))]; exact gLine_p (by (have z_ := unhid u21_; omega)))
          clear cr0 cb0 cd0 cv0 ck0
          have cr746 := hid (CUR_R hc742 (.inr rfl))
          have cd747 := CUR_d (hc742)
          have cb747 := hid (CUR_b hc742)
          have cv748 := hid (CUR_v hc742)
          have ck749 := hid (KZ_lt (i := (i + 1)) hz)
          have c1750 := (hc742).1
          have ci751 := hi743
          have bk752 : ∀ j : Nat, (j : Int) < 4 * dt 79 10 → dt730 83 j = dt 83 j := fun j hj => (hF732 83 (by decide) j).trans (bk728 j hj)
          clear h729_2 w715 h729_3 w716 h729_4 w717 h729_5 w718 h729_6 w719 h729_7 w724 h729_8 w726
          have r753 : 0 ≤ dt730 79 10 ∧ dt730 79 10 ≤ 24 := InvC_get hI731 79 10 rfl rfl
          refine go_toq PM173 (k := 9) (pc' := 86) (L' := [some (.inr (.inr (some 79))), some (.inl 0)]) (st' := [.inl 8, .inl (4 * (dt730 79 10)), .inr (.inr (some 83))]) (w' := (SH, dt730)) rfl ?_
          have hI754 : InvC (u2 dt730 83 ((4 * (dt730 79 10)).toNat) 8) := InvC_u2 hI731 (lo := -2147483648) (hi := 2147483647) rfl rfl rfl (by decide) (by decide)
          have hF755 : Fr [79, 83, 84] dt (u2 dt730 83 ((4 * (dt730 79 10)).toNat) 8) := Fr_u2 hF733 (by decide)
          have w756 : (u2 dt730 83 ((4 * (dt730 79 10)).toNat) 8) 79 2 = dt 79 2 := w734
          have w757 : (u2 dt730 83 ((4 * (dt730 79 10)).toNat) 8) 79 9 = dt 79 9 := w735
          have w758 : (u2 dt730 83 ((4 * (dt730 79 10)).toNat) 8) 79 10 = dt 79 10 := w736
          have w759 : (u2 dt730 83 ((4 * (dt730 79 10)).toNat) 8) 79 11 = dt 79 11 := w737
          have w760 : (u2 dt730 83 ((4 * (dt730 79 10)).toNat) 8) 79 12 = dt 79 12 := w738
          have w761 : (u2 dt730 83 ((4 * (dt730 79 10)).toNat) 8) 79 13 = dt730 79 13 := rfl
          have w762 : (u2 dt730 83 ((4 * (dt730 79 10)).toNat) 8) 79 14 = dt730 79 14 := rfl
          have w763 : (u2 dt730 83 ((4 * (dt730 79 10)).toNat) 8) 79 15 = dt730 79 15 := rfl
          have w764 : (u2 dt730 83 ((4 * (dt730 79 10)).toNat) 8) 79 16 = dt730 79 16 := rfl
          have w765 : (u2 dt730 83 ((4 * (dt730 79 10)).toNat) 8) 79 17 = dt 79 17 := w739
          have w766 : (u2 dt730 83 ((4 * (dt730 79 10)).toNat) 8) 79 18 = dt730 79 18 := rfl
          have w767 : (u2 dt730 83 ((4 * (dt730 79 10)).toNat) 8) 79 20 = 0 := w740
          have hc768 : CUR 1 b n (u2 dt730 83 ((4 * (dt730 79 10)).toNat) 8) (i + 1) := CUR_sm hc742 rfl rfl rfl rfl
          have w769 : (u2 dt730 83 ((4 * (dt730 79 10)).toNat) 8) 83 (4 * (dt 79 10)).toNat = lnR (KF 1 b n) (VF b n) i := by rw [show (4 * (dt 79 10)).toNat = (4 * (dt730 79 10)).toNat by first | with_reducible assumption | exact unhid (by with_reducible assumption) | omega]; exact u2_eq.trans (by first | exact (lnR_p (by omega)).symm | rfl)
          have bk770 : ∀ j : Nat, (j : Int) < 4 * dt 79 10 → (u2 dt730 83 ((4 * (dt730 79 10)).toNat) 8) 83 j = dt 83 j := fun j hj => (u2_ne (by omega)).trans (bk752 j hj)
          refine go_smpq PM173 (L' := [some (.inr (.inr (some 79))), some (.inl 0)]) (st' := []) (w' := (SH, (u2 dt730 83 ((4 * (dt730 79 10)).toNat) 8))) rfl rfl (s_iast (n := 64) rfl ⟨by omega, by omega⟩ ⟨by decide, by decide⟩) ?_
          have r771 : 0 ≤ dt730 79 11 ∧ dt730 79 11 ≤ 510 := InvC_get hI731 79 11 rfl rfl
          refine go_toq PM173 (k := 12) (pc' := 119) (L' := [some (.inr (.inr (some 79))), some (.inl 0)]) (st' := [.inl (dt730 79 11), .inl ((4 * (dt730 79 10)) + 1), .inr (.inr (some 83))]) (w' := (SH, (u2 dt730 83 ((4 * (dt730 79 10)).toNat) 8))) rfl ?_
          have hI772 : InvC (u2 (u2 dt730 83 ((4 * (dt730 79 10)).toNat) 8) 83 (((4 * (dt730 79 10)) + 1).toNat) (dt730 79 11)) := InvC_u2 hI754 (lo := -2147483648) (hi := 2147483647) rfl rfl rfl (by first | exact bnd1 r771 (by decide) | fail) (by first | exact bnd2 r771 (by decide) | fail)
          have hF773 : Fr [79, 83, 84] dt (u2 (u2 dt730 83 ((4 * (dt730 79 10)).toNat) 8) 83 (((4 * (dt730 79 10)) + 1).toNat) (dt730 79 11)) := Fr_u2 hF755 (by decide)
          have w774 : (u2 (u2 dt730 83 ((4 * (dt730 79 10)).toNat) 8) 83 (((4 * (dt730 79 10)) + 1).toNat) (dt730 79 11)) 79 2 = dt 79 2 := w756
          have w775 : (u2 (u2 dt730 83 ((4 * (dt730 79 10)).toNat) 8) 83 (((4 * (dt730 79 10)) + 1).toNat) (dt730 79 11)) 79 9 = dt 79 9 := w757
          have w776 : (u2 (u2 dt730 83 ((4 * (dt730 79 10)).toNat) 8) 83 (((4 * (dt730 79 10)) + 1).toNat) (dt730 79 11)) 79 10 = dt 79 10 := w758
          have w777 : (u2 (u2 dt730 83 ((4 * (dt730 79 10)).toNat) 8) 83 (((4 * (dt730 79 10)) + 1).toNat) (dt730 79 11)) 79 11 = dt 79 11 := w759
          have w778 : (u2 (u2 dt730 83 ((4 * (dt730 79 10)).toNat) 8) 83 (((4 * (dt730 79 10)) + 1).toNat) (dt730 79 11)) 79 12 = dt 79 12 := w760
          have w779 : (u2 (u2 dt730 83 ((4 * (dt730 79 10)).toNat) 8) 83 (((4 * (dt730 79 10)) + 1).toNat) (dt730 79 11)) 79 13 = dt730 79 13 := w761
          have w780 : (u2 (u2 dt730 83 ((4 * (dt730 79 10)).toNat) 8) 83 (((4 * (dt730 79 10)) + 1).toNat) (dt730 79 11)) 79 14 = dt730 79 14 := w762
          have w781 : (u2 (u2 dt730 83 ((4 * (dt730 79 10)).toNat) 8) 83 (((4 * (dt730 79 10)) + 1).toNat) (dt730 79 11)) 79 15 = dt730 79 15 := w763
          have w782 : (u2 (u2 dt730 83 ((4 * (dt730 79 10)).toNat) 8) 83 (((4 * (dt730 79 10)) + 1).toNat) (dt730 79 11)) 79 16 = dt730 79 16 := w764
          have w783 : (u2 (u2 dt730 83 ((4 * (dt730 79 10)).toNat) 8) 83 (((4 * (dt730 79 10)) + 1).toNat) (dt730 79 11)) 79 17 = dt 79 17 := w765
          have w784 : (u2 (u2 dt730 83 ((4 * (dt730 79 10)).toNat) 8) 83 (((4 * (dt730 79 10)) + 1).toNat) (dt730 79 11)) 79 18 = dt730 79 18 := w766
          have w785 : (u2 (u2 dt730 83 ((4 * (dt730 79 10)).toNat) 8) 83 (((4 * (dt730 79 10)) + 1).toNat) (dt730 79 11)) 79 20 = 0 := w767
          clear w756 w757 w758 w759 w760 w761 w762 w763 w764 w765 w766 w767
          have hc786 : CUR 1 b n (u2 (u2 dt730 83 ((4 * (dt730 79 10)).toNat) 8) 83 (((4 * (dt730 79 10)) + 1).toNat) (dt730 79 11)) (i + 1) := CUR_sm hc768 rfl rfl rfl rfl
          have w787 : (u2 (u2 dt730 83 ((4 * (dt730 79 10)).toNat) 8) 83 (((4 * (dt730 79 10)) + 1).toNat) (dt730 79 11)) 83 (4 * (dt 79 10)).toNat = lnR (KF 1 b n) (VF b n) i := (u2_ne (by omega)).trans w769
          have w788 : (u2 (u2 dt730 83 ((4 * (dt730 79 10)).toNat) 8) 83 (((4 * (dt730 79 10)) + 1).toNat) (dt730 79 11)) 83 ((4 * (dt 79 10)) + 1).toNat = dt 79 11 := by rw [show ((4 * (dt 79 10)) + 1).toNat = ((4 * (dt730 79 10)) + 1).toNat by first | with_reducible assumption | exact unhid (by with_reducible assumption) | omega]; exact u2_eq.trans (by omega)
          have bk789 : ∀ j : Nat, (j : Int) < 4 * dt 79 10 → (u2 (u2 dt730 83 ((4 * (dt730 79 10)).toNat) 8) 83 (((4 * (dt730 79 10)) + 1).toNat) (dt730 79 11)) 83 j = dt 83 j := fun j hj => (u2_ne (by omega)).trans (bk770 j hj)
          refine go_smpq PM173 (L' := [some (.inr (.inr (some 79))), some (.inl 0)]) (st' := []) (w' := (SH, (u2 (u2 dt730 83 ((4 * (dt730 79 10)).toNat) 8) 83 (((4 * (dt730 79 10)) + 1).toNat) (dt730 79 11)))) rfl rfl (s_iast (n := 64) rfl ⟨by omega, by omega⟩ (by first | exact bnd r771 (by decide) (by decide) | exact ⟨by fail, by fail⟩)) ?_
          refine go_toq PM173 (k := 1) (pc' := 121) (L' := [some (.inr (.inr (some 79))), some (.inl 0)]) (st' := [.inr (.inr (some 79))]) (w' := (SH, (u2 (u2 dt730 83 ((4 * (dt730 79 10)).toNat) 8) 83 (((4 * (dt730 79 10)) + 1).toNat) (dt730 79 11)))) rfl ?_
          refine go_callq PM173 PM165 (Q' := _) rfl rfl rfl rfl (sp_X6_sumUp_g L xs sio (d + 27) (u2 (u2 dt730 83 ((4 * (dt730 79 10)).toNat) 8) 83 (((4 * (dt730 79 10)) + 1).toNat) (dt730 79 11)) hI772 b n t (i + 1) (by first | exact hbb | (rw [show (u2 (u2 dt730 83 ((4 * (dt730 79 10)).toNat) 8) 83 (((4 * (dt730 79 10)) + 1).toNat) (dt730 79 11)) 85 = dt 85 from funext (hF773 85 (by decide)), show (u2 (u2 dt730 83 ((4 * (dt730 79 10)).toNat) 8) 83 (((4 * (dt730 79 10)) + 1).toNat) (dt730 79 11)) 79 12 = dt 79 12 by first | with_reducible assumption | exact unhid (by with_reducible assumption) | fail]; exact hbb)) (by first | with_reducible assumption | exact unhid (by with_reducible assumption) | exact Eq.trans (by with_reducible assumption) hnn | fail) hz ht hc786 hi743 hn5  (by first | exact True.intro | with_reducible assumption | exact unhid (by with_reducible assumption) | rfl | omega | trivial) (by first | exact True.intro | with_reducible assumption | exact unhid (by with_reducible assumption) | rfl | omega | trivial)) ?_
          rintro _ _ ⟨dt791, rfl, hI792, hF793, h790⟩
          refine ⟨rfl, ?_⟩
          have hF794 : Fr [79, 83, 84] dt dt791 := Fr_tr hF773 hF793 (by decide)
          rcases h790 with ⟨rfl, h790⟩ | ⟨rfl, h790⟩
          · skip
            obtain ⟨h790_0, h790_1, h790_2, h790_3, h790_4⟩ := h790
            have w795 : dt791 79 2 = dt 79 2 := h790_1.trans w774
            have w796 : dt791 79 9 = dt 79 9 := h790_2.trans w775
            have w797 : dt791 79 10 = dt 79 10 := h790_3.trans w776
            have w798 : dt791 79 12 = dt 79 12 := h790_4.trans w778
            have fl799 := RSX_0 h790_0 rfl
            have fe800 : (gLF (KF 1 b n) (VF b n) (dt 79 10)) i = (gE (KF 1 b n) (VF b n)) (i + 1) := hp745.trans ((show (gL1 (KF 1 b n) (VF b n)) (i + 1) = gB ((gE (KF 1 b n) (VF b n)) (i + 1)) (gL2 (KF 1 b n) (VF b n)) by rfl).trans (gB_no fl799.1))
            have w801 : dt791 83 (4 * (dt 79 10)).toNat = lnR (KF 1 b n) (VF b n) i := (hF793 83 (by decide) _).trans w787
            have w802 : dt791 83 ((4 * (dt 79 10)) + 1).toNat = dt 79 11 := (hF793 83 (by decide) _).trans w788
            have bk803 : ∀ j : Nat, (j : Int) < 4 * dt 79 10 → dt791 83 j = dt 83 j := fun j hj => (hF793 83 (by decide) j).trans (bk789 j hj)
            clear h790_1 w774 h790_2 w775 h790_3 w776 h790_4 w778
            refine go_retq PM173 (k := 2) (r := some (.inl 0)) (w1 := (SH, dt791)) rfl ?_
            exact ⟨dt791, rfl, hI792, hF794, (Or.inl ⟨rfl, ⟨by exact RSX_f fe800 fl799 (by first | rfl | with_reducible assumption | exact unhid (by with_reducible assumption) | fail) (by first | rfl | with_reducible assumption | exact unhid (by with_reducible assumption) | fail), by first | exact True.intro | with_reducible assumption | exact unhid (by with_reducible assumption) | rfl | fail | trivial, by first | exact True.intro | with_reducible assumption | exact unhid (by with_reducible assumption) | rfl | fail | trivial, by first | exact True.intro | with_reducible assumption | exact unhid (by with_reducible assumption) | rfl | fail | trivial, by first | exact True.intro | with_reducible assumption | exact unhid (by with_reducible assumption) | rfl | fail | trivial⟩⟩)⟩
          · skip
            obtain ⟨h790_0, h790_1, h790_2, h790_3, h790_4, h790_5, h790_6, h790_7, h790_8, h790_9, h790_10⟩ := h790
            have w804 : dt791 79 2 = dt 79 2 := h790_5.trans w774
            have w805 : dt791 79 9 = dt 79 9 := h790_6.trans w775
            have w806 : dt791 79 10 = dt 79 10 := h790_7.trans w776
            have w807 : dt791 79 12 = dt 79 12 := h790_8.trans w778
            have w808 : dt791 79 17 = dt 79 17 := h790_9.trans w783
            have w809 : dt791 79 20 = 0 := h790_10.trans w785
            obtain ⟨j810, ej811, hc812⟩ := RSX_1 h790_0 (by decide)
            have hp813 : (gLF (KF 1 b n) (VF b n) (dt 79 10)) i = (gL2 (KF 1 b n) (VF b n)) j810 := hp745.trans ((show (gL1 (KF 1 b n) (VF b n)) (i + 1) = gB ((gE (KF 1 b n) (VF b n)) (i + 1)) (gL2 (KF 1 b n) (VF b n)) by rfl).trans (by rw [ej811]; exact gB_0))
            have hi814 : j810 ≤ t := by have z := gE_M (K := (KF 1 b n)) (V := (VF b n)) (i := (i + 1)) hz; rw [ej811] at z; have y := z rfl; simp only at y; omega
            clear cr746 cb747 cd747 cv748 ck749
            have cr815 := hid (CUR_R hc812 (.inr rfl))
            have cd816 := CUR_d (hc812)
            have cb816 := hid (CUR_b hc812)
            have cv817 := hid (CUR_v hc812)
            have ck818 := hid (KZ_lt (i := j810) hz)
            have c1819 := (hc812).1
            have ci820 := hi814
            have u23_ := hid (And.intro (unhid c6) (And.intro (unhid c711) (And.intro (unhid c712) (And.intro (unhid cr815) (And.intro (unhid cb816) (And.intro (unhid cv817) (unhid ck818)))))))
            have ls822 : (i + 1) = lnP (KF 1 b n) i := by first | exact (lnP_p (by omega)).symm | (rw [lnP_r (by fail)]; have y_ := congrArg Prod.snd rfl; have w_ := gA_at (K := (KF 1 b n)) (V := (VF b n)) (m := 7) (i := i + 1) (by rw [rfl]); fail)
            have RS821 : RXD dt dt791 (rE (KF 1 b n) (VF b n) (lnP (KF 1 b n) i)) := by rw [← ls822]; exact RXD_l (by omega) (fun j => (u2_ne (by omega)).trans ((u2_ne (by omega)).trans ((hF732 84 (by decide) j).trans (u2_ne (by omega))))) h790_4
            have gj823 : (gE (KF 1 b n) (VF b n) (lnP (KF 1 b n) i)).2 = j810 := by rw [← ls822, ej811]
            have w824 : dt791 83 (4 * (dt 79 10)).toNat = lnR (KF 1 b n) (VF b n) i := (hF793 83 (by decide) _).trans w787
            have w825 : dt791 83 ((4 * (dt 79 10)) + 1).toNat = dt 79 11 := (hF793 83 (by decide) _).trans w788
            have bk826 : ∀ j : Nat, (j : Int) < 4 * dt 79 10 → dt791 83 j = dt 83 j := fun j hj => (hF793 83 (by decide) j).trans (bk789 j hj)
            clear h790_5 w774 h790_6 w775 h790_7 w776 h790_8 w778 h790_9 w783 h790_10 w785
            have r827 : 0 ≤ dt791 79 10 ∧ dt791 79 10 ≤ 24 := InvC_get hI792 79 10 rfl rfl
            have r828 : 0 ≤ dt791 79 11 ∧ dt791 79 11 ≤ 510 := InvC_get hI792 79 11 rfl rfl
            refine go_toq PM173 (k := 11) (pc' := 145) (L' := [some (.inr (.inr (some 79))), some (.inl 0)]) (st' := [.inl (dt791 79 11), .inl ((4 * (dt791 79 10)) + 2), .inr (.inr (some 83))]) (w' := (SH, dt791)) rfl ?_
            have hI829 : InvC (u2 dt791 83 (((4 * (dt791 79 10)) + 2).toNat) (dt791 79 11)) := InvC_u2 hI792 (lo := -2147483648) (hi := 2147483647) rfl rfl rfl (by first | exact bnd1 r828 (by decide) | fail) (by first | exact bnd2 r828 (by decide) | fail)
            have hF830 : Fr [79, 83, 84] dt (u2 dt791 83 (((4 * (dt791 79 10)) + 2).toNat) (dt791 79 11)) := Fr_u2 hF794 (by decide)
            have w831 : (u2 dt791 83 (((4 * (dt791 79 10)) + 2).toNat) (dt791 79 11)) 79 2 = dt 79 2 := w804
            have w832 : (u2 dt791 83 (((4 * (dt791 79 10)) + 2).toNat) (dt791 79 11)) 79 9 = dt 79 9 := w805
            have w833 : (u2 dt791 83 (((4 * (dt791 79 10)) + 2).toNat) (dt791 79 11)) 79 10 = dt 79 10 := w806
            have w834 : (u2 dt791 83 (((4 * (dt791 79 10)) + 2).toNat) (dt791 79 11)) 79 11 = dt791 79 11 := rfl
            have w835 : (u2 dt791 83 (((4 * (dt791 79 10)) + 2).toNat) (dt791 79 11)) 79 12 = dt 79 12 := w807
            have w836 : (u2 dt791 83 (((4 * (dt791 79 10)) + 2).toNat) (dt791 79 11)) 79 13 = dt791 79 13 := rfl
            have w837 : (u2 dt791 83 (((4 * (dt791 79 10)) + 2).toNat) (dt791 79 11)) 79 14 = dt791 79 14 := rfl
            have w838 : (u2 dt791 83 (((4 * (dt791 79 10)) + 2).toNat) (dt791 79 11)) 79 15 = dt791 79 15 := rfl
            have w839 : (u2 dt791 83 (((4 * (dt791 79 10)) + 2).toNat) (dt791 79 11)) 79 16 = dt791 79 16 := rfl
            have w840 : (u2 dt791 83 (((4 * (dt791 79 10)) + 2).toNat) (dt791 79 11)) 79 17 = dt 79 17 := w808
            have w841 : (u2 dt791 83 (((4 * (dt791 79 10)) + 2).toNat) (dt791 79 11)) 79 18 = dt791 79 18 := rfl
            have w842 : (u2 dt791 83 (((4 * (dt791 79 10)) + 2).toNat) (dt791 79 11)) 79 20 = 0 := w809
            have hc843 : CUR 1 b n (u2 dt791 83 (((4 * (dt791 79 10)) + 2).toNat) (dt791 79 11)) j810 := CUR_sm hc812 rfl rfl rfl rfl
            have w844 : (u2 dt791 83 (((4 * (dt791 79 10)) + 2).toNat) (dt791 79 11)) 83 (4 * (dt 79 10)).toNat = lnR (KF 1 b n) (VF b n) i := (u2_ne (by omega)).trans w824
            have w845 : (u2 dt791 83 (((4 * (dt791 79 10)) + 2).toNat) (dt791 79 11)) 83 ((4 * (dt 79 10)) + 1).toNat = dt 79 11 := (u2_ne (by omega)).trans w825
            have w846 : (u2 dt791 83 (((4 * (dt791 79 10)) + 2).toNat) (dt791 79 11)) 83 ((4 * (dt 79 10)) + 2).toNat = dt791 79 11 := by rw [show ((4 * (dt 79 10)) + 2).toNat = ((4 * (dt791 79 10)) + 2).toNat by first | with_reducible assumption | exact unhid (by with_reducible assumption) | omega]; exact u2_eq.trans (by omega)
            have bk847 : ∀ j : Nat, (j : Int) < 4 * dt 79 10 → (u2 dt791 83 (((4 * (dt791 79 10)) + 2).toNat) (dt791 79 11)) 83 j = dt 83 j := fun j hj => (u2_ne (by omega)).trans (bk826 j hj)
            refine go_smpq PM173 (L' := [some (.inr (.inr (some 79))), some (.inl 0)]) (st' := []) (w' := (SH, (u2 dt791 83 (((4 * (dt791 79 10)) + 2).toNat) (dt791 79 11)))) rfl rfl (s_iast (n := 64) rfl ⟨by omega, by omega⟩ (by first | exact bnd r828 (by decide) (by decide) | exact ⟨by fail, by fail⟩)) ?_
            have r848 : (-2147483648) ≤ dt791 79 14 ∧ dt791 79 14 ≤ 2147483647 := InvC_get hI792 79 14 rfl rfl
            refine go_ifq PM173 (k := 3) (p1 := 167) (p2 := 154) (L' := [some (.inr (.inr (some 79))), some (.inl 0)]) (st' := []) (w' := (SH, (u2 dt791 83 (((4 * (dt791 79 10)) + 2).toNat) (dt791 79 11)))) rfl (c_ne (a := dt791 79 14) (b := 3) (by first | exact bnd r848 (by decide) (by decide) | exact ⟨by fail, by fail⟩) ⟨by decide, by decide⟩) (fun c849 => ?_) (fun c849 => ?_)
            · skip
              replace c849 := hid c849
              refine go_toq PM173 (k := 10) (pc' := 183) (L' := [some (.inr (.inr (some 79))), some (.inl 0)]) (st' := [.inl (dt791 79 11), .inl ((4 * (dt791 79 10)) + 3), .inr (.inr (some 83))]) (w' := (SH, (u2 dt791 83 (((4 * (dt791 79 10)) + 2).toNat) (dt791 79 11)))) rfl ?_
              have u24_ := hid (And.intro (unhid c6) (And.intro (unhid c711) (And.intro (unhid c712) (And.intro (unhid cr815) (And.intro (unhid cb816) (And.intro (unhid cv817) (And.intro (unhid ck818) (unhid c849))))))))
              have hI850 : InvC (u2 (u2 dt791 83 (((4 * (dt791 79 10)) + 2).toNat) (dt791 79 11)) 83 (((4 * (dt791 79 10)) + 3).toNat) (dt791 79 11)) := InvC_u2 hI829 (lo := -2147483648) (hi := 2147483647) rfl rfl rfl (by first | exact bnd1 r828 (by decide) | fail) (by first | exact bnd2 r828 (by decide) | fail)
              have hF851 : Fr [79, 83, 84] dt (u2 (u2 dt791 83 (((4 * (dt791 79 10)) + 2).toNat) (dt791 79 11)) 83 (((4 * (dt791 79 10)) + 3).toNat) (dt791 79 11)) := Fr_u2 hF830 (by decide)
              have w852 : (u2 (u2 dt791 83 (((4 * (dt791 79 10)) + 2).toNat) (dt791 79 11)) 83 (((4 * (dt791 79 10)) + 3).toNat) (dt791 79 11)) 79 2 = dt 79 2 := w831
              have w853 : (u2 (u2 dt791 83 (((4 * (dt791 79 10)) + 2).toNat) (dt791 79 11)) 83 (((4 * (dt791 79 10)) + 3).toNat) (dt791 79 11)) 79 9 = dt 79 9 := w832
              have w854 : (u2 (u2 dt791 83 (((4 * (dt791 79 10)) + 2).toNat) (dt791 79 11)) 83 (((4 * (dt791 79 10)) + 3).toNat) (dt791 79 11)) 79 10 = dt 79 10 := w833
              have w855 : (u2 (u2 dt791 83 (((4 * (dt791 79 10)) + 2).toNat) (dt791 79 11)) 83 (((4 * (dt791 79 10)) + 3).toNat) (dt791 79 11)) 79 11 = dt791 79 11 := w834
              have w856 : (u2 (u2 dt791 83 (((4 * (dt791 79 10)) + 2).toNat) (dt791 79 11)) 83 (((4 * (dt791 79 10)) + 3).toNat) (dt791 79 11)) 79 12 = dt 79 12 := w835
              have w857 : (u2 (u2 dt791 83 (((4 * (dt791 79 10)) + 2).toNat) (dt791 79 11)) 83 (((4 * (dt791 79 10)) + 3).toNat) (dt791 79 11)) 79 13 = dt791 79 13 := w836
              have w858 : (u2 (u2 dt791 83 (((4 * (dt791 79 10)) + 2).toNat) (dt791 79 11)) 83 (((4 * (dt791 79 10)) + 3).toNat) (dt791 79 11)) 79 14 = dt791 79 14 := w837
              have w859 : (u2 (u2 dt791 83 (((4 * (dt791 79 10)) + 2).toNat) (dt791 79 11)) 83 (((4 * (dt791 79 10)) + 3).toNat) (dt791 79 11)) 79 15 = dt791 79 15 := w838
              have w860 : (u2 (u2 dt791 83 (((4 * (dt791 79 10)) + 2).toNat) (dt791 79 11)) 83 (((4 * (dt791 79 10)) + 3).toNat) (dt791 79 11)) 79 16 = dt791 79 16 := w839
              have w861 : (u2 (u2 dt791 83 (((4 * (dt791 79 10)) + 2).toNat) (dt791 79 11)) 83 (((4 * (dt791 79 10)) + 3).toNat) (dt791 79 11)) 79 17 = dt 79 17 := w840
              have w862 : (u2 (u2 dt791 83 (((4 * (dt791 79 10)) + 2).toNat) (dt791 79 11)) 83 (((4 * (dt791 79 10)) + 3).toNat) (dt791 79 11)) 79 18 = dt791 79 18 := w841
              have w863 : (u2 (u2 dt791 83 (((4 * (dt791 79 10)) + 2).toNat) (dt791 79 11)) 83 (((4 * (dt791 79 10)) + 3).toNat) (dt791 79 11)) 79 20 = 0 := w842
              clear w831 w832 w833 w834 w835 w836 w837 w838 w839 w840 w841 w842
              have hc864 : CUR 1 b n (u2 (u2 dt791 83 (((4 * (dt791 79 10)) + 2).toNat) (dt791 79 11)) 83 (((4 * (dt791 79 10)) + 3).toNat) (dt791 79 11)) j810 := CUR_sm hc843 rfl rfl rfl rfl
              have w865 : (u2 (u2 dt791 83 (((4 * (dt791 79 10)) + 2).toNat) (dt791 79 11)) 83 (((4 * (dt791 79 10)) + 3).toNat) (dt791 79 11)) 83 (4 * (dt 79 10)).toNat = lnR (KF 1 b n) (VF b n) i := (u2_ne (by omega)).trans w844
              have w866 : (u2 (u2 dt791 83 (((4 * (dt791 79 10)) + 2).toNat) (dt791 79 11)) 83 (((4 * (dt791 79 10)) + 3).toNat) (dt791 79 11)) 83 ((4 * (dt 79 10)) + 1).toNat = dt 79 11 := (u2_ne (by omega)).trans w845
              have w867 : (u2 (u2 dt791 83 (((4 * (dt791 79 10)) + 2).toNat) (dt791 79 11)) 83 (((4 * (dt791 79 10)) + 3).toNat) (dt791 79 11)) 83 ((4 * (dt 79 10)) + 2).toNat = dt791 79 11 := (u2_ne (by omega)).trans w846
              have w868 : (u2 (u2 dt791 83 (((4 * (dt791 79 10)) + 2).toNat) (dt791 79 11)) 83 (((4 * (dt791 79 10)) + 3).toNat) (dt791 79 11)) 83 ((4 * (dt 79 10)) + 3).toNat = dt791 79 11 := by rw [show ((4 * (dt 79 10)) + 3).toNat = ((4 * (dt791 79 10)) + 3).toNat by first | with_reducible assumption | exact unhid (by with_reducible assumption) | omega]; exact u2_eq.trans (by rfl)
              have bk869 : ∀ j : Nat, (j : Int) < 4 * dt 79 10 → (u2 (u2 dt791 83 (((4 * (dt791 79 10)) + 2).toNat) (dt791 79 11)) 83 (((4 * (dt791 79 10)) + 3).toNat) (dt791 79 11)) 83 j = dt 83 j := fun j hj => (u2_ne (by omega)).trans (bk847 j hj)
              refine go_smpq PM173 (L' := [some (.inr (.inr (some 79))), some (.inl 0)]) (st' := []) (w' := (SH, (u2 (u2 dt791 83 (((4 * (dt791 79 10)) + 2).toNat) (dt791 79 11)) 83 (((4 * (dt791 79 10)) + 3).toNat) (dt791 79 11)))) rfl rfl (s_iast (n := 64) rfl ⟨by omega, by omega⟩ (by first | exact bnd r828 (by decide) (by decide) | exact ⟨by fail, by fail⟩)) ?_
              refine go_toq PM173 (k := 2) (pc' := 188) (L' := [some (.inr (.inr (some 79))), some (.inl 0)]) (st' := [.inl 159, .inr (.inr (some 79))]) (w' := (SH, (u2 (u2 dt791 83 (((4 * (dt791 79 10)) + 2).toNat) (dt791 79 11)) 83 (((4 * (dt791 79 10)) + 3).toNat) (dt791 79 11)))) rfl ?_
              refine go_callq PM173 PM161 (Q' := _) rfl rfl rfl rfl (sp_X6_need0_g1 L xs sio (d + 29) (u2 (u2 dt791 83 (((4 * (dt791 79 10)) + 2).toNat) (dt791 79 11)) 83 (((4 * (dt791 79 10)) + 3).toNat) (dt791 79 11)) hI850 b n t j810 (by first | exact hbb | (rw [show (u2 (u2 dt791 83 (((4 * (dt791 79 10)) + 2).toNat) (dt791 79 11)) 83 (((4 * (dt791 79 10)) + 3).toNat) (dt791 79 11)) 85 = dt 85 from funext (hF851 85 (by decide)), show (u2 (u2 dt791 83 (((4 * (dt791 79 10)) + 2).toNat) (dt791 79 11)) 83 (((4 * (dt791 79 10)) + 3).toNat) (dt791 79 11)) 79 12 = dt 79 12 by first | with_reducible assumption | exact unhid (by with_reducible assumption) | fail]; exact hbb)) (by first | with_reducible assumption | exact unhid (by with_reducible assumption) | exact Eq.trans (by with_reducible assumption) hnn | fail) hz ht hc864 hi814 hn5 159 ⟨by decide, by decide⟩ (by first | exact True.intro | with_reducible assumption | exact unhid (by with_reducible assumption) | rfl | omega | trivial)) ?_
              rintro _ _ ⟨dt871, rfl, hI872, hF873, h870⟩
              refine ⟨rfl, ?_⟩
              have hF874 : Fr [79, 83, 84] dt dt871 := Fr_tr hF851 hF873 (by decide)
              rcases h870 with ⟨rfl, h870⟩ | ⟨rfl, h870⟩
              · skip
                obtain ⟨h870_0, h870_1, h870_2, h870_3, h870_4⟩ := h870
                have w875 : dt871 79 2 = dt 79 2 := h870_1.trans w852
                have w876 : dt871 79 9 = dt 79 9 := h870_2.trans w853
                have w877 : dt871 79 10 = dt 79 10 := h870_3.trans w854
                have w878 : dt871 79 12 = dt 79 12 := h870_4.trans w856
                have kk_879 : ¬ KF 1 b n j810 = 1002 := by (have z_ := unhid u24_; omega)
                have fl880 := RSX_0 h870_0 rfl
                have fe881 : (gLF (KF 1 b n) (VF b n) (dt 79 10)) i = (gK (KF 1 b n) (159 - 100)) j810 := hp813.trans ((show (gL2 (KF 1 b n) (VF b n)) j810 = gB ((gK (KF 1 b n) (159 - 100)) j810) gOk by first | exact gB_id.symm | exact gL2_n (by omega)).trans (gB_no fl880.1))
                have w882 : dt871 83 (4 * (dt 79 10)).toNat = lnR (KF 1 b n) (VF b n) i := (hF873 83 (by decide) _).trans w865
                have w883 : dt871 83 ((4 * (dt 79 10)) + 1).toNat = dt 79 11 := (hF873 83 (by decide) _).trans w866
                have w884 : dt871 83 ((4 * (dt 79 10)) + 2).toNat = dt791 79 11 := (hF873 83 (by decide) _).trans w867
                have w885 : dt871 83 ((4 * (dt 79 10)) + 3).toNat = dt791 79 11 := (hF873 83 (by decide) _).trans w868
                have bk886 : ∀ j : Nat, (j : Int) < 4 * dt 79 10 → dt871 83 j = dt 83 j := fun j hj => (hF873 83 (by decide) j).trans (bk869 j hj)
                clear h870_1 w852 h870_2 w853 h870_3 w854 h870_4 w856
                refine go_retq PM173 (k := 0) (r := some (.inl 0)) (w1 := (SH, dt871)) rfl ?_
                exact ⟨dt871, rfl, hI872, hF874, (Or.inl ⟨rfl, ⟨by exact RSX_f fe881 fl880 (by first | rfl | with_reducible assumption | exact unhid (by with_reducible assumption) | fail) (by first | rfl | with_reducible assumption | exact unhid (by with_reducible assumption) | fail), by first | exact True.intro | with_reducible assumption | exact unhid (by with_reducible assumption) | rfl | fail | trivial, by first | exact True.intro | with_reducible assumption | exact unhid (by with_reducible assumption) | rfl | fail | trivial, by first | exact True.intro | with_reducible assumption | exact unhid (by with_reducible assumption) | rfl | fail | trivial, by first | exact True.intro | with_reducible assumption | exact unhid (by with_reducible assumption) | rfl | fail | trivial⟩⟩)⟩
              · skip
                obtain ⟨h870_0, h870_1, h870_2, h870_3, h870_4, h870_5, h870_6, h870_7, h870_8, h870_9⟩ := h870
                have w887 : dt871 79 2 = dt 79 2 := h870_3.trans w852
                have w888 : dt871 79 9 = dt 79 9 := h870_4.trans w853
                have w889 : dt871 79 10 = dt 79 10 := h870_5.trans w854
                have w890 : dt871 79 11 = dt791 79 11 := h870_6.trans w855
                have w891 : dt871 79 12 = dt 79 12 := h870_7.trans w856
                have w892 : dt871 79 17 = dt 79 17 := h870_8.trans w861
                have w893 : dt871 79 20 = 0 := h870_9.trans w863
                have kk_894 : ¬ KF 1 b n j810 = 1002 := by (have z_ := unhid u24_; omega)
                obtain ⟨j895, ej896, hc897⟩ := RSX_1 h870_0 (by decide)
                have hp898 : (gLF (KF 1 b n) (VF b n) (dt 79 10)) i = gOk j895 := hp813.trans ((show (gL2 (KF 1 b n) (VF b n)) j810 = gB ((gK (KF 1 b n) (159 - 100)) j810) gOk by first | exact gB_id.symm | exact gL2_n (by (have z_ := unhid u24_; omega))).trans (by rw [ej896]; exact gB_0))
                have hi899 : j895 ≤ t := by have z := (fun (h : KZ (KF 1 b n) t) => gK_M (K := (KF 1 b n)) (k := 159 - 100) (i := j810) h (by decide)) hz; rw [ej896] at z; have y := z rfl; simp only at y; omega
                clear cr815 cb816 cd816 cv817 ck818
                have cr900 := hid (CUR_R hc897 (.inr rfl))
                have cd901 := CUR_d (hc897)
                have cb901 := hid (CUR_b hc897)
                have cv902 := hid (CUR_v hc897)
                have ck903 := hid (KZ_lt (i := j895) hz)
                have c1904 := (hc897).1
                have ci905 := hi899
                have w906 : dt871 83 (4 * (dt 79 10)).toNat = lnR (KF 1 b n) (VF b n) i := (hF873 83 (by decide) _).trans w865
                have w907 : dt871 83 ((4 * (dt 79 10)) + 1).toNat = dt 79 11 := (hF873 83 (by decide) _).trans w866
                have w908 : dt871 83 ((4 * (dt 79 10)) + 2).toNat = dt791 79 11 := (hF873 83 (by decide) _).trans w867
                have w909 : dt871 83 ((4 * (dt 79 10)) + 3).toNat = dt791 79 11 := (hF873 83 (by decide) _).trans w868
                have bk910 : ∀ j : Nat, (j : Int) < 4 * dt 79 10 → dt871 83 j = dt 83 j := fun j hj => (hF873 83 (by decide) j).trans (bk869 j hj)
                clear h870_3 w852 h870_4 w853 h870_5 w854 h870_6 w855 h870_7 w856 h870_8 w861 h870_9 w863
                refine go_retq PM173 (k := 0) (r := some (.inl 1)) (w1 := (SH, dt871)) rfl ?_
                exact ⟨dt871, rfl, hI872, hF874, (Or.inr ⟨rfl, ⟨by exact RSX_ok (hp898.trans (by rfl)) hc897, by first | exact True.intro | with_reducible assumption | exact unhid (by with_reducible assumption) | rfl | fail | trivial, by first | exact True.intro | with_reducible assumption | exact unhid (by with_reducible assumption) | rfl | omega | trivial, by first | exact True.intro | with_reducible assumption | exact unhid (by with_reducible assumption) | rfl | omega | trivial, by first | exact True.intro | with_reducible assumption | exact unhid (by with_reducible assumption) | rfl | omega | trivial, by exact (InvC_get (by assumption) 79 15 rfl rfl).2, by first | exact LXR_m RS821 hI (by fail) (by fail) (fun j => by first | rfl | exact (hF873 84 (by decide) j).trans ((u2_ne (by fail)).trans (u2_ne (by fail)))) w906 w907 w908 (w909.trans (by fail)) | exact LXR_m RS821 (show RXD dt791 dt791 (rLb (KF 1 b n) (VF b n) (gE (KF 1 b n) (VF b n) (lnP (KF 1 b n) i)).2) from by rw [gj823, rLb_0 (by omega)]; exact RXD_sm rfl (fun _ => rfl)) (by omega) (by omega) (fun j => by first | rfl | exact (hF873 84 (by decide) j).trans ((u2_ne (by omega)).trans (u2_ne (by omega)))) w906 w907 w908 (w909.trans (by omega)), by exact bk910, by exact LXR_84 RS821 (by omega) (by first | exact hI | exact (show RXD dt791 dt791 (rLb (KF 1 b n) (VF b n) (gE (KF 1 b n) (VF b n) (lnP (KF 1 b n) i)).2) from by rw [gj823, rLb_0 (by omega)]; exact RXD_sm rfl (fun _ => rfl))) (fun j => by first | rfl | exact (hF873 84 (by decide) j).trans ((u2_ne (by omega)).trans (u2_ne (by omega)))), by first | exact True.intro | with_reducible assumption | exact unhid (by with_reducible assumption) | rfl | fail | trivial, by first | exact True.intro | with_reducible assumption | exact unhid (by with_reducible assumption) | rfl | fail | trivial, by first | exact True.intro | with_reducible assumption | exact unhid (by with_reducible assumption) | rfl | fail | trivial, by first | exact True.intro | with_reducible assumption | exact unhid (by with_reducible assumption) | rfl | fail | trivial, by first | exact True.intro | with_reducible assumption | exact unhid (by with_reducible assumption) | rfl | fail | trivial⟩⟩)⟩
            · skip
              refine go_toq PM173 (k := 1) (pc' := 155) (L' := [some (.inr (.inr (some 79))), some (.inl 0)]) (st' := [.inr (.inr (some 79))]) (w' := (SH, (u2 dt791 83 (((4 * (dt791 79 10)) + 2).toNat) (dt791 79 11)))) rfl ?_
              refine go_callq PM173 PM159 (Q' := _) rfl rfl rfl rfl (sp_X6_next0_p1 L xs sio (d + 30) (u2 dt791 83 (((4 * (dt791 79 10)) + 2).toNat) (dt791 79 11)) hI829   (by first | exact True.intro | with_reducible assumption | exact unhid (by with_reducible assumption) | rfl | omega | trivial) (by first | exact True.intro | with_reducible assumption | exact unhid (by with_reducible assumption) | rfl | omega | trivial)) ?_
              rintro _ _ ⟨dt912, rfl, hI913, hF914, h911⟩
              refine ⟨rfl, ?_⟩
              have hF915 : Fr [79, 83, 84] dt dt912 := Fr_tr hF830 hF914 (by decide)
              rcases h911 with ⟨rfl, h911⟩
              obtain ⟨h911_0, h911_1, h911_2, h911_3, h911_4, h911_5, h911_6, h911_7, h911_8⟩ := h911
              have w916 : dt912 79 2 = dt 79 2 := h911_2.trans w831
              have w917 : dt912 79 9 = dt 79 9 := h911_3.trans w832
              have w918 : dt912 79 10 = dt 79 10 := h911_4.trans w833
              have w919 : dt912 79 11 = dt791 79 11 := h911_5.trans w834
              have w920 : dt912 79 12 = dt 79 12 := h911_6.trans w835
              have w921 : dt912 79 17 = dt 79 17 := h911_7.trans w840
              have w922 : dt912 79 20 = 0 := h911_8.trans w842
              have hq923 := h911_0
              rw [show (u2 dt791 83 (((4 * (dt791 79 10)) + 2).toNat) (dt791 79 11)) 85 = dt 85 from funext (hF830 85 (by decide)), show (u2 dt791 83 (((4 * (dt791 79 10)) + 2).toNat) (dt791 79 11)) 79 12 = dt 79 12 by first | with_reducible assumption | exact unhid (by with_reducible assumption) | fail, hbb, show (dt 79 12).toNat = n from (congrArg Int.toNat hnn).trans (Int.toNat_natCast n)] at hq923
              have hc924 : CUR 1 b n dt912 (j810 + 1) := CUR_n hc843 hq923
              have hi925 : j810 + 1 ≤ t := by (have z_ := unhid u23_; omega)
              have av926 : (u2 dt791 83 (((4 * (dt791 79 10)) + 2).toNat) (dt791 79 11)) 79 15 + 1 ≤ (u2 dt791 83 (((4 * (dt791 79 10)) + 2).toNat) (dt791 79 11)) 79 13 := by (have z_ := unhid u23_; omega)
              have kk_927 : KF 1 b n j810 = 1002 := by (have z_ := unhid u23_; omega)
              have hp928 : (gLF (KF 1 b n) (VF b n) (dt 79 10)) i = (fun i => gB (gB_ (KF 1 b n) (VF b n) 8 i) (gK (KF 1 b n) 59)) (j810 + 1) := hp813.trans (by exact gL2_w (by (have z_ := unhid u23_; omega)))
              clear cr815 cb816 cd816 cv817 ck818
              have cr929 := hid (CUR_R hc924 (.inr rfl))
              have cd930 := CUR_d (hc924)
              have cb930 := hid (CUR_b hc924)
              have cv931 := hid (CUR_v hc924)
              have ck932 := hid (KZ_lt (i := (j810 + 1)) hz)
              have c1933 := (hc924).1
              have ci934 := hi925
              have w935 : dt912 83 (4 * (dt 79 10)).toNat = lnR (KF 1 b n) (VF b n) i := (hF914 83 (by decide) _).trans w844
              have w936 : dt912 83 ((4 * (dt 79 10)) + 1).toNat = dt 79 11 := (hF914 83 (by decide) _).trans w845
              have w937 : dt912 83 ((4 * (dt 79 10)) + 2).toNat = dt791 79 11 := (hF914 83 (by decide) _).trans w846
              have bk938 : ∀ j : Nat, (j : Int) < 4 * dt 79 10 → dt912 83 j = dt 83 j := fun j hj => (hF914 83 (by decide) j).trans (bk847 j hj)
              clear h911_2 w831 h911_3 w832 h911_4 w833 h911_5 w834 h911_6 w835 h911_7 w840 h911_8 w842
              refine go_toq PM173 (k := 1) (pc' := 159) (L' := [some (.inr (.inr (some 79))), some (.inl 0)]) (st' := [.inr (.inr (some 79))]) (w' := (SH, dt912)) rfl ?_
              refine go_callq PM173 PM168 (Q' := _) rfl rfl rfl rfl (sp_X6_any_g0 L xs sio (d + 0) dt912 hI913 b n t (j810 + 1) (by first | exact hbb | (rw [show dt912 85 = dt 85 from funext (hF915 85 (by decide)), show dt912 79 12 = dt 79 12 by first | with_reducible assumption | exact unhid (by with_reducible assumption) | fail]; exact hbb)) (by first | with_reducible assumption | exact unhid (by with_reducible assumption) | exact Eq.trans (by with_reducible assumption) hnn | fail) hz ht hc924 hi925 hn5  (by first | exact True.intro | with_reducible assumption | exact unhid (by with_reducible assumption) | rfl | omega | trivial) (by first | exact True.intro | with_reducible assumption | exact unhid (by with_reducible assumption) | rfl | omega | trivial) (by first | exact True.intro | with_reducible assumption | exact unhid (by with_reducible assumption) | rfl | fail | trivial)) ?_
              rintro _ _ ⟨dt940, rfl, hI941, hF942, h939⟩
              refine ⟨rfl, ?_⟩
              have hF943 : Fr [79, 83, 84] dt dt940 := Fr_tr hF915 hF942 (by decide)
              rcases h939 with ⟨rfl, h939⟩ | ⟨rfl, h939⟩
              · skip
                obtain ⟨h939_0, h939_1, h939_2, h939_3, h939_4⟩ := h939
                have w944 : dt940 79 2 = dt 79 2 := h939_1.trans w916
                have w945 : dt940 79 9 = dt 79 9 := h939_2.trans w917
                have w946 : dt940 79 10 = dt 79 10 := h939_3.trans w918
                have w947 : dt940 79 12 = dt 79 12 := h939_4.trans w920
                have fl948 := RSX_0 h939_0 rfl
                have fe949 : (gLF (KF 1 b n) (VF b n) (dt 79 10)) i = (gB_ (KF 1 b n) (VF b n) 8) (j810 + 1) := hp928.trans ((show (fun i => gB (gB_ (KF 1 b n) (VF b n) 8 i) (gK (KF 1 b n) 59)) (j810 + 1) = gB ((gB_ (KF 1 b n) (VF b n) 8) (j810 + 1)) (gK (KF 1 b n) 59) by rfl).trans (gB_no fl948.1))
                have w950 : dt940 83 (4 * (dt 79 10)).toNat = lnR (KF 1 b n) (VF b n) i := (hF942 83 (by decide) _).trans w935
                have w951 : dt940 83 ((4 * (dt 79 10)) + 1).toNat = dt 79 11 := (hF942 83 (by decide) _).trans w936
                have w952 : dt940 83 ((4 * (dt 79 10)) + 2).toNat = dt791 79 11 := (hF942 83 (by decide) _).trans w937
                have bk953 : ∀ j : Nat, (j : Int) < 4 * dt 79 10 → dt940 83 j = dt 83 j := fun j hj => (hF942 83 (by decide) j).trans (bk938 j hj)
                clear h939_1 w916 h939_2 w917 h939_3 h939_4 w920
                refine go_retq PM173 (k := 2) (r := some (.inl 0)) (w1 := (SH, dt940)) rfl ?_
                exact ⟨dt940, rfl, hI941, hF943, (Or.inl ⟨rfl, ⟨by exact RSX_f fe949 fl948 (by first | rfl | with_reducible assumption | exact unhid (by with_reducible assumption) | fail) (by first | rfl | with_reducible assumption | exact unhid (by with_reducible assumption) | fail), by first | exact True.intro | with_reducible assumption | exact unhid (by with_reducible assumption) | rfl | fail | trivial, by first | exact True.intro | with_reducible assumption | exact unhid (by with_reducible assumption) | rfl | fail | trivial, by first | exact True.intro | with_reducible assumption | exact unhid (by with_reducible assumption) | rfl | fail | trivial, by first | exact True.intro | with_reducible assumption | exact unhid (by with_reducible assumption) | rfl | fail | trivial⟩⟩)⟩
              · skip
                obtain ⟨h939_0, h939_1, h939_2, h939_3, h939_4, h939_5, h939_6, h939_7, h939_8, h939_9, h939_10⟩ := h939
                have w954 : dt940 79 2 = dt 79 2 := h939_5.trans w916
                have w955 : dt940 79 9 = dt 79 9 := h939_6.trans w917
                have w956 : dt940 79 10 = dt 79 10 := h939_7.trans w918
                have w957 : dt940 79 12 = dt 79 12 := h939_8.trans w920
                have w958 : dt940 79 17 = dt 79 17 := h939_9.trans w921
                have w959 : dt940 79 20 = 0 := h939_10.trans w922
                obtain ⟨j960, ej961, hc962⟩ := RSX_1 h939_0 (by decide)
                have hp963 : (gLF (KF 1 b n) (VF b n) (dt 79 10)) i = (gK (KF 1 b n) 59) j960 := hp928.trans ((show (fun i => gB (gB_ (KF 1 b n) (VF b n) 8 i) (gK (KF 1 b n) 59)) (j810 + 1) = gB ((gB_ (KF 1 b n) (VF b n) 8) (j810 + 1)) (gK (KF 1 b n) 59) by rfl).trans (by rw [ej961]; exact gB_0))
                have hi964 : j960 ≤ t := by have z := gB__M (K := (KF 1 b n)) (V := (VF b n)) (d := 8) (i := (j810 + 1)) hz; rw [ej961] at z; have y := z rfl; simp only at y; omega
                clear cr929 cb930 cd930 cv931 ck932
                have cr965 := hid (CUR_R hc962 (.inr rfl))
                have cd966 := CUR_d (hc962)
                have cb966 := hid (CUR_b hc962)
                have cv967 := hid (CUR_v hc962)
                have ck968 := hid (KZ_lt (i := j960) hz)
                have c1969 := (hc962).1
                have ci970 := hi964
                have u29_ := hid (And.intro (unhid c6) (And.intro (unhid c711) (And.intro (unhid c712) (And.intro (unhid cr965) (And.intro (unhid cb966) (And.intro (unhid cv967) (unhid ck968)))))))
                have RB971 : RXD dt791 dt940 (rLb (KF 1 b n) (VF b n) (gE (KF 1 b n) (VF b n) (lnP (KF 1 b n) i)).2) := by rw [gj823, rLb_1 (by omega)]; exact RXD_l (by omega) (fun j => (hF914 84 (by decide) j).trans (u2_ne (by omega))) h939_4
                have w972 : dt940 83 (4 * (dt 79 10)).toNat = lnR (KF 1 b n) (VF b n) i := (hF942 83 (by decide) _).trans w935
                have w973 : dt940 83 ((4 * (dt 79 10)) + 1).toNat = dt 79 11 := (hF942 83 (by decide) _).trans w936
                have w974 : dt940 83 ((4 * (dt 79 10)) + 2).toNat = dt791 79 11 := (hF942 83 (by decide) _).trans w937
                have bk975 : ∀ j : Nat, (j : Int) < 4 * dt 79 10 → dt940 83 j = dt 83 j := fun j hj => (hF942 83 (by decide) j).trans (bk938 j hj)
                clear h939_5 w916 h939_6 w917 h939_7 h939_8 w920 h939_9 w921 h939_10 w922
                have r976 : 0 ≤ dt940 79 10 ∧ dt940 79 10 ≤ 24 := InvC_get hI941 79 10 rfl rfl
                have r977 : 0 ≤ dt940 79 11 ∧ dt940 79 11 ≤ 510 := InvC_get hI941 79 11 rfl rfl
                refine go_toq PM173 (k := 11) (pc' := 183) (L' := [some (.inr (.inr (some 79))), some (.inl 0)]) (st' := [.inl (dt940 79 11), .inl ((4 * (dt940 79 10)) + 3), .inr (.inr (some 83))]) (w' := (SH, dt940)) rfl ?_
                have hI978 : InvC (u2 dt940 83 (((4 * (dt940 79 10)) + 3).toNat) (dt940 79 11)) := InvC_u2 hI941 (lo := -2147483648) (hi := 2147483647) rfl rfl rfl (by first | exact bnd1 r977 (by decide) | fail) (by first | exact bnd2 r977 (by decide) | fail)
                have hF979 : Fr [79, 83, 84] dt (u2 dt940 83 (((4 * (dt940 79 10)) + 3).toNat) (dt940 79 11)) := Fr_u2 hF943 (by decide)
                have w980 : (u2 dt940 83 (((4 * (dt940 79 10)) + 3).toNat) (dt940 79 11)) 79 2 = dt 79 2 := w954
                have w981 : (u2 dt940 83 (((4 * (dt940 79 10)) + 3).toNat) (dt940 79 11)) 79 9 = dt 79 9 := w955
                have w982 : (u2 dt940 83 (((4 * (dt940 79 10)) + 3).toNat) (dt940 79 11)) 79 10 = dt 79 10 := w956
                have w983 : (u2 dt940 83 (((4 * (dt940 79 10)) + 3).toNat) (dt940 79 11)) 79 11 = dt940 79 11 := rfl
                have w984 : (u2 dt940 83 (((4 * (dt940 79 10)) + 3).toNat) (dt940 79 11)) 79 12 = dt 79 12 := w957
                have w985 : (u2 dt940 83 (((4 * (dt940 79 10)) + 3).toNat) (dt940 79 11)) 79 13 = dt940 79 13 := rfl
                have w986 : (u2 dt940 83 (((4 * (dt940 79 10)) + 3).toNat) (dt940 79 11)) 79 14 = dt940 79 14 := rfl
                have w987 : (u2 dt940 83 (((4 * (dt940 79 10)) + 3).toNat) (dt940 79 11)) 79 15 = dt940 79 15 := rfl
                have w988 : (u2 dt940 83 (((4 * (dt940 79 10)) + 3).toNat) (dt940 79 11)) 79 16 = dt940 79 16 := rfl
                have w989 : (u2 dt940 83 (((4 * (dt940 79 10)) + 3).toNat) (dt940 79 11)) 79 17 = dt 79 17 := w958
                have w990 : (u2 dt940 83 (((4 * (dt940 79 10)) + 3).toNat) (dt940 79 11)) 79 18 = dt940 79 18 := rfl
                have w991 : (u2 dt940 83 (((4 * (dt940 79 10)) + 3).toNat) (dt940 79 11)) 79 20 = 0 := w959
                have hc992 : CUR 1 b n (u2 dt940 83 (((4 * (dt940 79 10)) + 3).toNat) (dt940 79 11)) j960 := CUR_sm hc962 rfl rfl rfl rfl
                have w993 : (u2 dt940 83 (((4 * (dt940 79 10)) + 3).toNat) (dt940 79 11)) 83 (4 * (dt 79 10)).toNat = lnR (KF 1 b n) (VF b n) i := (u2_ne (by omega)).trans w972
                have w994 : (u2 dt940 83 (((4 * (dt940 79 10)) + 3).toNat) (dt940 79 11)) 83 ((4 * (dt 79 10)) + 1).toNat = dt 79 11 := (u2_ne (by omega)).trans w973
                have w995 : (u2 dt940 83 (((4 * (dt940 79 10)) + 3).toNat) (dt940 79 11)) 83 ((4 * (dt 79 10)) + 2).toNat = dt791 79 11 := (u2_ne (by omega)).trans w974
                have w996 : (u2 dt940 83 (((4 * (dt940 79 10)) + 3).toNat) (dt940 79 11)) 83 ((4 * (dt 79 10)) + 3).toNat = dt940 79 11 := by rw [show ((4 * (dt 79 10)) + 3).toNat = ((4 * (dt940 79 10)) + 3).toNat by first | with_reducible assumption | exact unhid (by with_reducible assumption) | omega]; exact u2_eq.trans (by rfl)
                have bk997 : ∀ j : Nat, (j : Int) < 4 * dt 79 10 → (u2 dt940 83 (((4 * (dt940 79 10)) + 3).toNat) (dt940 79 11)) 83 j = dt 83 j := fun j hj => (u2_ne (by omega)).trans (bk975 j hj)
                refine go_smpq PM173 (L' := [some (.inr (.inr (some 79))), some (.inl 0)]) (st' := []) (w' := (SH, (u2 dt940 83 (((4 * (dt940 79 10)) + 3).toNat) (dt940 79 11)))) rfl rfl (s_iast (n := 64) rfl ⟨by omega, by omega⟩ (by first | exact bnd r977 (by decide) (by decide) | exact ⟨by fail, by fail⟩)) ?_
                refine go_toq PM173 (k := 2) (pc' := 188) (L' := [some (.inr (.inr (some 79))), some (.inl 0)]) (st' := [.inl 159, .inr (.inr (some 79))]) (w' := (SH, (u2 dt940 83 (((4 * (dt940 79 10)) + 3).toNat) (dt940 79 11)))) rfl ?_
                refine go_callq PM173 PM161 (Q' := _) rfl rfl rfl rfl (sp_X6_need0_g1 L xs sio (d + 29) (u2 dt940 83 (((4 * (dt940 79 10)) + 3).toNat) (dt940 79 11)) hI978 b n t j960 (by first | exact hbb | (rw [show (u2 dt940 83 (((4 * (dt940 79 10)) + 3).toNat) (dt940 79 11)) 85 = dt 85 from funext (hF979 85 (by decide)), show (u2 dt940 83 (((4 * (dt940 79 10)) + 3).toNat) (dt940 79 11)) 79 12 = dt 79 12 by first | with_reducible assumption | exact unhid (by with_reducible assumption) | fail]; exact hbb)) (by first | with_reducible assumption | exact unhid (by with_reducible assumption) | exact Eq.trans (by with_reducible assumption) hnn | fail) hz ht hc992 hi964 hn5 159 ⟨by decide, by decide⟩ (by first | exact True.intro | with_reducible assumption | exact unhid (by with_reducible assumption) | rfl | omega | trivial)) ?_
                rintro _ _ ⟨dt999, rfl, hI1000, hF1001, h998⟩
                refine ⟨rfl, ?_⟩
                have hF1002 : Fr [79, 83, 84] dt dt999 := Fr_tr hF979 hF1001 (by decide)
                rcases h998 with ⟨rfl, h998⟩ | ⟨rfl, h998⟩
                · skip
                  obtain ⟨h998_0, h998_1, h998_2, h998_3, h998_4⟩ := h998
                  have w1003 : dt999 79 2 = dt 79 2 := h998_1.trans w980
                  have w1004 : dt999 79 9 = dt 79 9 := h998_2.trans w981
                  have w1005 : dt999 79 10 = dt 79 10 := h998_3.trans w982
                  have w1006 : dt999 79 12 = dt 79 12 := h998_4.trans w984
                  have fl1007 := RSX_0 h998_0 rfl
                  have fe1008 : (gLF (KF 1 b n) (VF b n) (dt 79 10)) i = (gK (KF 1 b n) (159 - 100)) j960 := hp963.trans ((show (gK (KF 1 b n) 59) j960 = gB ((gK (KF 1 b n) (159 - 100)) j960) gOk by first | exact gB_id.symm | exact gL2_n (by fail)).trans (gB_no fl1007.1))
                  have w1009 : dt999 83 (4 * (dt 79 10)).toNat = lnR (KF 1 b n) (VF b n) i := (hF1001 83 (by decide) _).trans w993
                  have w1010 : dt999 83 ((4 * (dt 79 10)) + 1).toNat = dt 79 11 := (hF1001 83 (by decide) _).trans w994
                  have w1011 : dt999 83 ((4 * (dt 79 10)) + 2).toNat = dt791 79 11 := (hF1001 83 (by decide) _).trans w995
                  have w1012 : dt999 83 ((4 * (dt 79 10)) + 3).toNat = dt940 79 11 := (hF1001 83 (by decide) _).trans w996
                  have bk1013 : ∀ j : Nat, (j : Int) < 4 * dt 79 10 → dt999 83 j = dt 83 j := fun j hj => (hF1001 83 (by decide) j).trans (bk997 j hj)
                  clear h998_1 w980 h998_2 w981 h998_3 w982 h998_4 w984
                  refine go_retq PM173 (k := 0) (r := some (.inl 0)) (w1 := (SH, dt999)) rfl ?_
                  exact ⟨dt999, rfl, hI1000, hF1002, (Or.inl ⟨rfl, ⟨by exact RSX_f fe1008 fl1007 (by first | rfl | with_reducible assumption | exact unhid (by with_reducible assumption) | fail) (by first | rfl | with_reducible assumption | exact unhid (by with_reducible assumption) | fail), by first | exact True.intro | with_reducible assumption | exact unhid (by with_reducible assumption) | rfl | fail | trivial, by first | exact True.intro | with_reducible assumption | exact unhid (by with_reducible assumption) | rfl | fail | trivial, by first | exact True.intro | with_reducible assumption | exact unhid (by with_reducible assumption) | rfl | fail | trivial, by first | exact True.intro | with_reducible assumption | exact unhid (by with_reducible assumption) | rfl | fail | trivial⟩⟩)⟩
                · skip
                  obtain ⟨h998_0, h998_1, h998_2, h998_3, h998_4, h998_5, h998_6, h998_7, h998_8, h998_9⟩ := h998
                  have w1014 : dt999 79 2 = dt 79 2 := h998_3.trans w980
                  have w1015 : dt999 79 9 = dt 79 9 := h998_4.trans w981
                  have w1016 : dt999 79 10 = dt 79 10 := h998_5.trans w982
                  have w1017 : dt999 79 11 = dt940 79 11 := h998_6.trans w983
                  have w1018 : dt999 79 12 = dt 79 12 := h998_7.trans w984
                  have w1019 : dt999 79 17 = dt 79 17 := h998_8.trans w989
                  have w1020 : dt999 79 20 = 0 := h998_9.trans w991
                  obtain ⟨j1021, ej1022, hc1023⟩ := RSX_1 h998_0 (by decide)
                  have hp1024 : (gLF (KF 1 b n) (VF b n) (dt 79 10)) i = gOk j1021 := hp963.trans ((show (gK (KF 1 b n) 59) j960 = gB ((gK (KF 1 b n) (159 - 100)) j960) gOk by first | exact gB_id.symm | exact gL2_n (by (have z_ := unhid u29_; fail))).trans (by rw [ej1022]; exact gB_0))
                  have hi1025 : j1021 ≤ t := by have z := (fun (h : KZ (KF 1 b n) t) => gK_M (K := (KF 1 b n)) (k := 159 - 100) (i := j960) h (by decide)) hz; rw [ej1022] at z; have y := z rfl; simp only at y; omega
                  clear cr965 cb966 cd966 cv967 ck968
                  have cr1026 := hid (CUR_R hc1023 (.inr rfl))
                  have cd1027 := CUR_d (hc1023)
                  have cb1027 := hid (CUR_b hc1023)
                  have cv1028 := hid (CUR_v hc1023)
                  have ck1029 := hid (KZ_lt (i := j1021) hz)
                  have c11030 := (hc1023).1
                  have ci1031 := hi1025
                  have w1032 : dt999 83 (4 * (dt 79 10)).toNat = lnR (KF 1 b n) (VF b n) i := (hF1001 83 (by decide) _).trans w993
                  have w1033 : dt999 83 ((4 * (dt 79 10)) + 1).toNat = dt 79 11 := (hF1001 83 (by decide) _).trans w994
                  have w1034 : dt999 83 ((4 * (dt 79 10)) + 2).toNat = dt791 79 11 := (hF1001 83 (by decide) _).trans w995
                  have w1035 : dt999 83 ((4 * (dt 79 10)) + 3).toNat = dt940 79 11 := (hF1001 83 (by decide) _).trans w996
                  have bk1036 : ∀ j : Nat, (j : Int) < 4 * dt 79 10 → dt999 83 j = dt 83 j := fun j hj => (hF1001 83 (by decide) j).trans (bk997 j hj)
                  clear h998_3 w980 h998_4 w981 h998_5 w982 h998_6 w983 h998_7 w984 h998_8 w989 h998_9 w991
                  refine go_retq PM173 (k := 0) (r := some (.inl 1)) (w1 := (SH, dt999)) rfl ?_
                  exact ⟨dt999, rfl, hI1000, hF1002, (Or.inr ⟨rfl, ⟨by exact RSX_ok (hp1024.trans (by rfl)) hc1023, by first | exact True.intro | with_reducible assumption | exact unhid (by with_reducible assumption) | rfl | fail | trivial, by first | exact True.intro | with_reducible assumption | exact unhid (by with_reducible assumption) | rfl | omega | trivial, by first | exact True.intro | with_reducible assumption | exact unhid (by with_reducible assumption) | rfl | omega | trivial, by first | exact True.intro | with_reducible assumption | exact unhid (by with_reducible assumption) | rfl | omega | trivial, by exact (InvC_get (by assumption) 79 15 rfl rfl).2, by first | exact LXR_m RS821 RB971 (by omega) (by omega) (fun j => by first | rfl | exact (hF1001 84 (by decide) j).trans (u2_ne (by omega))) w1032 w1033 w1034 (w1035.trans (by omega)) | exact LXR_m RS821 (show RXD dt791 dt791 (rLb (KF 1 b n) (VF b n) (gE (KF 1 b n) (VF b n) (lnP (KF 1 b n) i)).2) from by rw [gj823, rLb_0 (by fail)]; exact RXD_sm rfl (fun _ => rfl)) (by fail) (by fail) (fun j => by first | rfl | exact (hF1001 84 (by decide) j).trans (u2_ne (by fail))) w1032 w1033 w1034 (w1035.trans (by fail)), by exact bk1036, by exact LXR_84 RS821 (by omega) (by first | exact RB971 | exact (show RXD dt791 dt791 (rLb (KF 1 b n) (VF b n) (gE (KF 1 b n) (VF b n) (lnP (KF 1 b n) i)).2) from by rw [gj823, rLb_0 (by fail)]; exact RXD_sm rfl (fun _ => rfl))) (fun j => by first | rfl | exact (hF1001 84 (by decide) j).trans (u2_ne (by omega))), by first | exact True.intro | with_reducible assumption | exact unhid (by with_reducible assumption) | rfl | fail | trivial, by first | exact True.intro | with_reducible assumption | exact unhid (by with_reducible assumption) | rfl | fail | trivial, by first | exact True.intro | with_reducible assumption | exact unhid (by with_reducible assumption) | rfl | fail | trivial, by first | exact True.intro | with_reducible assumption | exact unhid (by with_reducible assumption) | rfl | fail | trivial, by first | exact True.intro | with_reducible assumption | exact unhid (by with_reducible assumption) | rfl | fail | trivial⟩⟩)⟩
        · exfalso; omega
      · skip
        refine go_toq PM173 (k := 2) (pc' := 35) (L' := [some (.inr (.inr (some 79))), none]) (st' := [.inl 3, .inr (.inr (some 79))]) (w' := (SH, dt)) rfl ?_
        refine go_callq PM173 PM160 (Q' := _) rfl rfl rfl rfl (sp_X6_bad_g L xs sio (d + 36) dt hI  3 ⟨by decide, by decide⟩ ) ?_
        rintro _ _ ⟨dt1038, rfl, hI1039, hF1040, h1037⟩
        refine ⟨rfl, ?_⟩
        have hF1041 : Fr [79, 83, 84] dt dt1038 := Fr_tr hF hF1040 (by decide)
        rcases h1037 with ⟨rfl, h1037⟩
        obtain ⟨h1037_0, h1037_1, h1037_2, h1037_3, h1037_4, h1037_5, h1037_6, h1037_7, h1037_8, h1037_9, h1037_10, h1037_11⟩ := h1037
        have w1042 : dt1038 79 2 = dt 79 2 := h1037_2
        have w1043 : dt1038 79 9 = dt 79 9 := h1037_3
        have w1044 : dt1038 79 10 = dt 79 10 := h1037_4
        have w1045 : dt1038 79 11 = dt 79 11 := h1037_5
        have w1046 : dt1038 79 12 = dt 79 12 := h1037_6
        have w1047 : dt1038 79 13 = dt 79 13 := h1037_7
        have w1048 : dt1038 79 14 = dt 79 14 := h1037_8
        have w1049 : dt1038 79 15 = dt 79 15 := h1037_9
        have w1050 : dt1038 79 16 = dt 79 16 := h1037_10
        have w1051 : dt1038 79 20 = dt 79 20 := h1037_11
        have hc1052 : CUR 1 b n dt1038 i := CUR_sm hc (by first | with_reducible assumption | exact unhid (by with_reducible assumption) | rfl | fail) (by first | with_reducible assumption | exact unhid (by with_reducible assumption) | rfl | fail) (by first | with_reducible assumption | exact unhid (by with_reducible assumption) | rfl | fail) (by first | with_reducible assumption | exact unhid (by with_reducible assumption) | rfl | fail)
        have bk1053 : ∀ j : Nat, (j : Int) < 4 * dt 79 10 → dt1038 83 j = dt 83 j := fun j hj => (hF1040 83 (by decide) j).trans ((fun _ _ => rfl) j hj)
        clear h1037_2 h1037_3 h1037_4 h1037_5 h1037_6 h1037_7 h1037_8 h1037_9 h1037_10 h1037_11
        refine go_retq PM173 (k := 0) (r := some (.inl 0)) (w1 := (SH, dt1038)) rfl ?_
        exact ⟨dt1038, rfl, hI1039, hF1041, (Or.inl ⟨rfl, ⟨by exact RSX_no (k := 3) (j := i) ((rfl : (gLF (KF 1 b n) (VF b n) (dt 79 10)) i = (gLF (KF 1 b n) (VF b n) (dt 79 10)) i).trans (by show gLF _ _ _ _ = _; unfold gLF; rw [if_neg (by (have z_ := unhid cr0; omega)), if_pos (by omega)])) (by decide) (by omega) (by show _ = ((TP b n i : Nat) : Int); omega), by first | exact True.intro | with_reducible assumption | exact unhid (by with_reducible assumption) | rfl | fail | trivial, by first | exact True.intro | with_reducible assumption | exact unhid (by with_reducible assumption) | rfl | fail | trivial, by first | exact True.intro | with_reducible assumption | exact unhid (by with_reducible assumption) | rfl | fail | trivial, by first | exact True.intro | with_reducible assumption | exact unhid (by with_reducible assumption) | rfl | fail | trivial⟩⟩)⟩
    · skip
      replace c710 := hid c710
      refine go_toq PM173 (k := 2) (pc' := 20) (L' := [some (.inr (.inr (some 79))), none]) (st' := [.inl 1, .inr (.inr (some 79))]) (w' := (SH, dt)) rfl ?_
      refine go_callq PM173 PM160 (Q' := _) rfl rfl rfl rfl (sp_X6_bad_g L xs sio (d + 36) dt hI  1 ⟨by decide, by decide⟩ ) ?_
      rintro _ _ ⟨dt1055, rfl, hI1056, hF1057, h1054⟩
      refine ⟨rfl, ?_⟩
      have hF1058 : Fr [79, 83, 84] dt dt1055 := Fr_tr hF hF1057 (by decide)
      rcases h1054 with ⟨rfl, h1054⟩
      obtain ⟨h1054_0, h1054_1, h1054_2, h1054_3, h1054_4, h1054_5, h1054_6, h1054_7, h1054_8, h1054_9, h1054_10, h1054_11⟩ := h1054
      have w1059 : dt1055 79 2 = dt 79 2 := h1054_2
      have w1060 : dt1055 79 9 = dt 79 9 := h1054_3
      have w1061 : dt1055 79 10 = dt 79 10 := h1054_4
      have w1062 : dt1055 79 11 = dt 79 11 := h1054_5
      have w1063 : dt1055 79 12 = dt 79 12 := h1054_6
      have w1064 : dt1055 79 13 = dt 79 13 := h1054_7
      have w1065 : dt1055 79 14 = dt 79 14 := h1054_8
      have w1066 : dt1055 79 15 = dt 79 15 := h1054_9
      have w1067 : dt1055 79 16 = dt 79 16 := h1054_10
      have w1068 : dt1055 79 20 = dt 79 20 := h1054_11
      have u31_ := hid (And.intro (unhid cr0) (And.intro (unhid cb0) (And.intro (unhid cv0) (And.intro (unhid ck0) (And.intro (unhid c6) (unhid c710))))))
      have hc1069 : CUR 1 b n dt1055 i := CUR_sm hc (by first | with_reducible assumption | exact unhid (by with_reducible assumption) | rfl | fail) (by first | with_reducible assumption | exact unhid (by with_reducible assumption) | rfl | fail) (by first | with_reducible assumption | exact unhid (by with_reducible assumption) | rfl | fail) (by first | with_reducible assumption | exact unhid (by with_reducible assumption) | rfl | fail)
      have bk1070 : ∀ j : Nat, (j : Int) < 4 * dt 79 10 → dt1055 83 j = dt 83 j := fun j hj => (hF1057 83 (by decide) j).trans ((fun _ _ => rfl) j hj)
      clear h1054_2 h1054_3 h1054_4 h1054_5 h1054_6 h1054_7 h1054_8 h1054_9 h1054_10 h1054_11
      refine go_retq PM173 (k := 0) (r := some (.inl 0)) (w1 := (SH, dt1055)) rfl ?_
      exact ⟨dt1055, rfl, hI1056, hF1058, (Or.inl ⟨rfl, ⟨by exact RSX_no (k := 1) (j := i) ((rfl : (gLF (KF 1 b n) (VF b n) (dt 79 10)) i = (gLF (KF 1 b n) (VF b n) (dt 79 10)) i).trans (by show gLF _ _ _ _ = _; unfold gLF; rw [if_pos (by (have z_ := unhid u31_; omega))])) (by decide) (by omega) (by show _ = ((TP b n i : Nat) : Int); omega), by first | exact True.intro | with_reducible assumption | exact unhid (by with_reducible assumption) | rfl | fail | trivial, by first | exact True.intro | with_reducible assumption | exact unhid (by with_reducible assumption) | rfl | fail | trivial, by first | exact True.intro | with_reducible assumption | exact unhid (by with_reducible assumption) | rfl | fail | trivial, by first | exact True.intro | with_reducible assumption | exact unhid (by with_reducible assumption) | rfl | fail | trivial⟩⟩)⟩
