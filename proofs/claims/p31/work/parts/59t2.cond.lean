set_option maxHeartbeats 8000000 in
theorem sp_X1_single_8f (L : Nat) (xs : Nat → Int32) (sio : Option Nat) (d : Nat) (dt : Nat → Nat → Int) (hI : InvC dt) (K V S : Nat → Int) (t : Nat) (hz : KZ K t) (ht : t ≤ 500)  (h_p0 : TKc K V S t dt) (h_p1 : 0 ≤ dt 35 8 ∧ dt 35 8 ≤ (t : Int)) (h_p2 : ¬ dt 35 2 = 0 → dt 35 8 = (t : Int)) (h_p3 : dt 35 2 = 0 → dt 35 12 ≤ dt 35 8) : GO (am_XX L xs sio) (d + 3) 32 0 [some (.inr (.inr (some 35))), some (.inl 8), none, none] [] (SH, dt) (fun r w2 => ∃ dt2 : Nat → Nat → Int, w2 = (SH, dt2) ∧ InvC dt2 ∧ Fr [35, 42] dt dt2 ∧ ((r = none ∧ (SPX S t dt dt2 (gC K V 0)) ∧ (0 ≤ dt2 35 8 ∧ dt2 35 8 ≤ (t : Int)) ∧ (¬ dt2 35 2 = 0 → dt2 35 8 = (t : Int)) ∧ (dt 35 8 ≤ dt2 35 8) ∧ (dt2 35 2 = 0 → CDX dt dt2 ((eC K V 0) (dt 35 8).toNat)) ∧ (dt2 35 2 = 0 → dt2 35 12 + dt 35 8 ≤ dt2 35 8 + dt 35 12) ∧ (dt2 35 1 = dt 35 1) ∧ (dt2 35 7 = dt 35 7)))) := by
  replace h_p2 := hid h_p2
  replace h_p3 := hid h_p3
  have hF : Fr [35, 42] dt dt := Fr_refl
  have r1 : 0 ≤ dt 35 12 ∧ dt 35 12 ≤ 500 := InvC_get hI 35 12 rfl rfl
  have r2 : (-2147483648) ≤ dt 35 2 ∧ dt 35 2 ≤ 2147483647 := InvC_get hI 35 2 rfl rfl
  have h7 : dt 35 7 = (t : Int) + 1 := h_p0.1
  have hk0 := TKc_k h_p0 h_p1
  have hv0 := hid (TKc_v h_p0 h_p1)
  have hs0 := TKc_s h_p0 h_p1
  have lt0_ := KZ_lt (i := (dt 35 8).toNat) hz
  refine go_toq PM32 (k := 1) (pc' := 1) (L' := [some (.inr (.inr (some 35))), some (.inl 8), none, none]) (st' := [.inr (.inr (some 35))]) (w' := (SH, dt)) rfl ?_
  refine go_callq PM32 PM20 (Q' := _) rfl rfl rfl rfl (sp_X1_token_f L xs sio (d + 2) dt hI K V S t hz ht  (by first | with_reducible assumption | exact unhid (by with_reducible assumption) | exact TKc_fr h_p0 hF (by decide) (by decide) (by decide) (by fail) | fail) (by first | with_reducible assumption | exact unhid (by with_reducible assumption) | exact TKc_fr h_p0 hF (by decide) (by decide) (by decide) (by fail) | fail) (by first | with_reducible assumption | exact unhid (by with_reducible assumption) | exact TKc_fr h_p0 hF (by decide) (by decide) (by decide) (by fail) | fail)) ?_
  rintro _ _ ⟨rfl, h3⟩
  refine ⟨rfl, ?_⟩
  rcases h3 with ⟨v_h3, rfl, h3r, h3⟩
  refine go_ifq PM32 (k := 1) (p1 := 14) (p2 := 10) (L' := [some (.inr (.inr (some 35))), some (.inl 8), none, none]) (st' := []) (w' := (SH, dt)) rfl (c_ne (a := v_h3) (b := 1005) (by first | exact bnd h3r (by decide) (by decide) | exact ⟨by fail, by fail⟩) ⟨by decide, by decide⟩) (fun c5 => ?_) (fun c5 => ?_)
  · skip
    replace c5 := hid c5
    refine go_toq PM32 (k := 5) (pc' := 21) (L' := [some (.inr (.inr (some 35))), some (.inl 8), some (.inl 0), none]) (st' := [.inr (.inr (some 35))]) (w' := (SH, dt)) rfl ?_
    refine go_callq PM32 PM20 (Q' := _) rfl rfl rfl rfl (sp_X1_token_f L xs sio (d + 2) dt hI K V S t hz ht  (by first | with_reducible assumption | exact unhid (by with_reducible assumption) | exact TKc_fr h_p0 hF (by decide) (by decide) (by decide) (by fail) | fail) (by first | with_reducible assumption | exact unhid (by with_reducible assumption) | exact TKc_fr h_p0 hF (by decide) (by decide) (by decide) (by fail) | fail) (by first | with_reducible assumption | exact unhid (by with_reducible assumption) | exact TKc_fr h_p0 hF (by decide) (by decide) (by decide) (by fail) | fail)) ?_
    rintro _ _ ⟨rfl, h6⟩
    refine ⟨rfl, ?_⟩
    rcases h6 with ⟨v_h6, rfl, h6r, h6⟩
    refine go_ifq PM32 (k := 1) (p1 := 107) (p2 := 29) (L' := [some (.inr (.inr (some 35))), some (.inl 8), some (.inl 0), none]) (st' := []) (w' := (SH, dt)) rfl (c_eq (a := v_h6) (b := 40) (by first | exact bnd h6r (by decide) (by decide) | exact ⟨by fail, by fail⟩) ⟨by decide, by decide⟩) (fun c8 => ?_) (fun c8 => ?_)
    · skip
      refine go_toq PM32 (k := 5) (pc' := 115) (L' := [some (.inr (.inr (some 35))), some (.inl 8), some (.inl 0), none]) (st' := [.inl 3, .inr (.inr (some 35))]) (w' := (SH, dt)) rfl ?_
      refine go_callq PM32 PM21 (Q' := _) rfl rfl rfl rfl (sp_X1_fail_f L xs sio (d + 2) dt hI K V S t hz ht 3 ⟨by decide, by decide⟩ (by first | with_reducible assumption | exact unhid (by with_reducible assumption) | exact TKc_fr h_p0 hF (by decide) (by decide) (by decide) (by fail) | fail) (by first | with_reducible assumption | exact unhid (by with_reducible assumption) | exact TKc_fr h_p0 hF (by decide) (by decide) (by decide) (by fail) | fail) (by first | with_reducible assumption | exact unhid (by with_reducible assumption) | exact TKc_fr h_p0 hF (by decide) (by decide) (by decide) (by fail) | fail)) ?_
      rintro _ _ ⟨dt10, rfl, hI11, hF12, h9⟩
      refine ⟨rfl, ?_⟩
      have hF13 : Fr [35, 42] dt dt10 := Fr_tr hF hF12 (by decide)
      rcases h9 with ⟨rfl, h9⟩
      obtain ⟨h9_0, h9_1, h9_2, h9_3, h9_4, h9_5⟩ := h9
      replace h9_2 := hid h9_2
      have X14 : PX S t (gC K V 0) gOk dt dt10 := PX_st PX_0 h9_0 (fun hl => by first | exact (by exact gC_3 (by omega) : _ = ((3 : Int), (dt 35 8).toNat)).trans (gB_no (by show ¬ ((3 : Int) = 0); omega)).symm | (exfalso; fail))
      have Q15 : QX (eC K V 0) eNl dt dt10 := QX_no (by (have z_ := unhid h9_2; omega))
      have ql16 := hid (fun (z_ : dt10 35 2 = 0) => (Q15 z_).1)
      refine go_retq PM32 (k := 1) (r := none) (w1 := (SH, dt10)) rfl ?_
      exact ⟨dt10, rfl, hI11, hF13, ⟨rfl, ⟨by exact PX_e X14 (by omega), by first | exact True.intro | with_reducible assumption | exact unhid (by with_reducible assumption) | rfl | omega | trivial, by first | exact True.intro | with_reducible assumption | exact unhid (by with_reducible assumption) | rfl | omega | trivial, by first | exact True.intro | with_reducible assumption | exact unhid (by with_reducible assumption) | rfl | omega | trivial, by first | (intro z_; exfalso; (have z_ := unhid h9_2; omega)) | exact QX_e Q15, by first | exact True.intro | with_reducible assumption | exact unhid (by with_reducible assumption) | rfl | omega | trivial, by first | exact True.intro | with_reducible assumption | exact unhid (by with_reducible assumption) | rfl | fail | trivial, by first | exact True.intro | with_reducible assumption | exact unhid (by with_reducible assumption) | rfl | fail | trivial⟩⟩⟩
    · skip
      replace c8 := hid c8
      refine go_toq PM32 (k := 1) (pc' := 30) (L' := [some (.inr (.inr (some 35))), some (.inl 8), some (.inl 0), none]) (st' := [.inr (.inr (some 35))]) (w' := (SH, dt)) rfl ?_
      refine go_callq PM32 PM33 (Q' := _) rfl rfl rfl rfl (sp_X1_sum_f L xs sio (d + 0) dt hI K V S t hz ht  (by first | with_reducible assumption | exact unhid (by with_reducible assumption) | exact TKc_fr h_p0 hF (by decide) (by decide) (by decide) (by fail) | fail) (by first | with_reducible assumption | exact unhid (by with_reducible assumption) | exact TKc_fr h_p0 hF (by decide) (by decide) (by decide) (by fail) | fail) (by first | with_reducible assumption | exact unhid (by with_reducible assumption) | exact TKc_fr h_p0 hF (by decide) (by decide) (by decide) (by fail) | fail) (by first | with_reducible assumption | exact unhid (by with_reducible assumption) | exact TKc_fr h_p0 hF (by decide) (by decide) (by decide) (by fail) | fail)) ?_
      rintro _ _ ⟨dt18, rfl, hI19, hF20, h17⟩
      refine ⟨rfl, ?_⟩
      have hF21 : Fr [35, 42] dt dt18 := Fr_tr hF hF20 (by decide)
      rcases h17 with ⟨rfl, h17⟩
      obtain ⟨h17_0, h17_1, h17_2, h17_3, h17_4, h17_5, h17_6, h17_7⟩ := h17
      replace h17_2 := hid h17_2
      replace h17_4 := hid h17_4
      replace h17_5 := hid h17_5
      have X22 : PX S t (gC K V 0) (gR1 K V) dt dt18 := PX_st PX_0 h17_0 (fun hl => by first | exact (gC_1 (by (have z_ := unhid c5; omega)) (by (have z_ := unhid c8; omega))).trans gC1_R | (exfalso; fail))
      have Q23 : QX (eC K V 0) (fun i => eE K V (i + 1) ++ [opc (K i)]) dt dt18 := QX_st QX_0 (fun z_ => by have y_ := SPX_ok h17_0 (by first | with_reducible assumption | exact unhid (by with_reducible assumption) | fail) z_; first | exact y_.1 | fail) (by omega) (fun z_ => h17_4 z_) (fun z_ => by have y_ := SPX_ok h17_0 (by first | with_reducible assumption | exact unhid (by with_reducible assumption) | fail) z_; (try rw [y_.2.2]); have hl := y_.2.1; first | done | (exact eC_1 (by (have z_ := unhid c5; omega)) (by (have z_ := unhid c8; omega))))
      have ql24 := fun (z_ : dt18 35 2 = 0) => (SPX_ok h17_0 (by first | with_reducible assumption | exact unhid (by with_reducible assumption) | fail) z_).1
      replace ql24 := hid ql24
      have ql25 := hid (fun (z_ : dt18 35 2 = 0) => (Q23 z_).1)
      refine go_toq PM32 (k := 1) (pc' := 34) (L' := [some (.inr (.inr (some 35))), some (.inl 8), some (.inl 0), none]) (st' := [.inr (.inr (some 35))]) (w' := (SH, dt18)) rfl ?_
      have v7_ := hid (And.intro (unhid h_p3) (And.intro (unhid hv0) (And.intro (unhid h17_2) (And.intro (unhid h17_5) (And.intro (unhid ql24) (unhid ql25))))))
      refine go_callq PM32 PM20 (Q' := _) rfl rfl rfl rfl (sp_X1_token_f L xs sio (d + 2) dt18 hI19 K V S t hz ht  (by first | with_reducible assumption | exact unhid (by with_reducible assumption) | exact TKc_fr h_p0 hF21 (by decide) (by decide) (by decide) (by omega) | fail) (by first | with_reducible assumption | exact unhid (by with_reducible assumption) | exact TKc_fr h_p0 hF21 (by decide) (by decide) (by decide) (by fail) | fail) (by first | with_reducible assumption | exact unhid (by with_reducible assumption) | exact TKc_fr h_p0 hF21 (by decide) (by decide) (by decide) (by fail) | fail)) ?_
      rintro _ _ ⟨rfl, h26⟩
      refine ⟨rfl, ?_⟩
      rcases h26 with ⟨v_h26, rfl, h26r, h26⟩
      refine go_ifq PM32 (k := 3) (p1 := 62) (p2 := 44) (L' := [some (.inr (.inr (some 35))), some (.inl 8), some (.inl 0), some (.inl v_h26)]) (st' := []) (w' := (SH, dt18)) rfl (c_eq (a := v_h26) (b := 60) (by first | exact bnd h26r (by decide) (by decide) | exact ⟨by fail, by fail⟩) ⟨by decide, by decide⟩) (fun c28 => ?_) (fun c28 => ?_)
      · skip
        refine go_toq PM32 (k := 5) (pc' := 69) (L' := [some (.inr (.inr (some 35))), some (.inl 8), some (.inl 0), some (.inl v_h26)]) (st' := [.inl ((dt18 35 8) + 1), .inr (.inr (some 35))]) (w' := (SH, dt18)) rfl ?_
        have hI29 : InvC (u2 dt18 35 8 ((dt18 35 8) + 1)) := InvC_u2 hI19 (lo := -2147483648) (hi := 2147483647) rfl rfl rfl (by omega) (by omega)
        have hF30 : Fr [35, 42] dt (u2 dt18 35 8 ((dt18 35 8) + 1)) := Fr_u2 hF21 (by decide)
        have w31 : (u2 dt18 35 8 ((dt18 35 8) + 1)) 35 1 = dt18 35 1 := rfl
        have w32 : (u2 dt18 35 8 ((dt18 35 8) + 1)) 35 2 = dt18 35 2 := rfl
        have w33 : (u2 dt18 35 8 ((dt18 35 8) + 1)) 35 3 = dt18 35 3 := rfl
        have w34 : (u2 dt18 35 8 ((dt18 35 8) + 1)) 35 7 = dt18 35 7 := rfl
        have w35 : (u2 dt18 35 8 ((dt18 35 8) + 1)) 35 8 = (dt18 35 8) + 1 := rfl
        have w36 : (u2 dt18 35 8 ((dt18 35 8) + 1)) 35 12 = dt18 35 12 := rfl
        have lv39 := KLIVE hz (D := dt18) (by omega) (by omega) (by (have z_ := unhid h17_2; omega))
        have X38 : PX S t (gC K V 0) (gE K V) dt (u2 dt18 35 8 ((dt18 35 8) + 1)) := PX_st X22 (SPX_inc hz (by omega) (by omega) (by omega) (by omega) (by omega)) (fun hl => by first | (show (gR1 K V) (dt18 35 8).toNat = (gE K V) ((dt18 35 8).toNat + 1); unfold gR1; rw [if_pos (by omega)]) | (exfalso; fail))
        refine go_smpq PM32 (L' := [some (.inr (.inr (some 35))), some (.inl 8), some (.inl 0), some (.inl v_h26)]) (st' := []) (w' := (SH, (u2 dt18 35 8 ((dt18 35 8) + 1)))) rfl rfl (s_pf rfl rfl rfl rfl ⟨by omega, by omega⟩) ?_
        refine go_toq PM32 (k := 1) (pc' := 73) (L' := [some (.inr (.inr (some 35))), some (.inl 8), some (.inl 0), some (.inl v_h26)]) (st' := [.inr (.inr (some 35))]) (w' := (SH, (u2 dt18 35 8 ((dt18 35 8) + 1)))) rfl ?_
        refine go_callq PM32 PM33 (Q' := _) rfl rfl rfl rfl (sp_X1_sum_f L xs sio (d + 0) (u2 dt18 35 8 ((dt18 35 8) + 1)) hI29 K V S t hz ht  (by first | with_reducible assumption | exact unhid (by with_reducible assumption) | exact TKc_fr h_p0 hF30 (by decide) (by decide) (by decide) (by omega) | fail) (by first | with_reducible assumption | exact unhid (by with_reducible assumption) | exact TKc_fr h_p0 hF30 (by decide) (by decide) (by decide) (by omega) | omega) (by first | with_reducible assumption | exact unhid (by with_reducible assumption) | exact TKc_fr h_p0 hF30 (by decide) (by decide) (by decide) (by omega) | omega) (by first | with_reducible assumption | exact unhid (by with_reducible assumption) | exact TKc_fr h_p0 hF30 (by decide) (by decide) (by decide) (by omega) | (have z_ := unhid v7_; omega))) ?_
        rintro _ _ ⟨dt41, rfl, hI42, hF43, h40⟩
        refine ⟨rfl, ?_⟩
        have hF44 : Fr [35, 42] dt dt41 := Fr_tr hF30 hF43 (by decide)
        rcases h40 with ⟨rfl, h40⟩
        obtain ⟨h40_0, h40_1, h40_2, h40_3, h40_4, h40_5, h40_6, h40_7⟩ := h40
        replace h40_2 := hid h40_2
        replace h40_4 := hid h40_4
        replace h40_5 := hid h40_5
        have X45 : PX S t (gC K V 0) gOk dt dt41 := PX_st X38 h40_0 (fun hl => by first | exact gB_id.symm | (exfalso; fail))
        have Q46 : QX (eC K V 0) (fun _ => [opc (K (dt18 35 8).toNat)]) dt dt41 := QX_st Q23 (fun z_ => by have y_ := SPX_ok h40_0 (by first | with_reducible assumption | exact unhid (by with_reducible assumption) | omega) z_; first | exact y_.1 | fail) (by omega) (fun z_ => CDX_l (D' := (u2 dt18 35 8 ((dt18 35 8) + 1))) rfl (fun j => u2_ne (by omega)) ((fun z_ => h40_4 z_) z_)) (fun z_ => by have y_ := SPX_ok h40_0 (by first | with_reducible assumption | exact unhid (by with_reducible assumption) | omega) z_; (try rw [y_.2.2]); have hl := y_.2.1; rw [show ((u2 dt18 35 8 ((dt18 35 8) + 1)) 35 8).toNat = (dt18 35 8).toNat + 1 by first | with_reducible assumption | exact unhid (by with_reducible assumption) | omega] at hl ⊢; first | done | (rfl))
        have ql47 := fun (z_ : dt41 35 2 = 0) => (SPX_ok h40_0 (by first | with_reducible assumption | exact unhid (by with_reducible assumption) | omega) z_).1
        replace ql47 := hid ql47
        have ql48 := hid (fun (z_ : dt41 35 2 = 0) => (Q46 z_).1)
        refine go_ifq PM32 (k := 3) (p1 := 88) (p2 := 83) (L' := [some (.inr (.inr (some 35))), some (.inl 8), some (.inl 0), some (.inl v_h26)]) (st' := [.inr (.inr (some 35))]) (w' := (SH, dt41)) rfl (c_ne (a := v_h26) (b := 60) (by first | exact bnd h26r (by decide) (by decide) | exact ⟨by fail, by fail⟩) ⟨by decide, by decide⟩) (fun c49 => ?_) (fun c49 => ?_)
        · skip
          replace c49 := hid c49
          refine go_ifq PM32 (k := 2) (p1 := 99) (p2 := 94) (L' := [some (.inr (.inr (some 35))), some (.inl 8), some (.inl 0), some (.inl v_h26)]) (st' := [.inr (.inr (some 35))]) (w' := (SH, dt41)) rfl (c_ne (a := v_h26) (b := 61) (by first | exact bnd h26r (by decide) (by decide) | exact ⟨by fail, by fail⟩) ⟨by decide, by decide⟩) (fun c50 => ?_) (fun c50 => ?_)
          · skip
            replace c50 := hid c50
            refine go_toq PM32 (k := 1) (pc' := 101) (L' := [some (.inr (.inr (some 35))), some (.inl 8), some (.inl 0), some (.inl v_h26)]) (st' := [.inl (-7), .inr (.inr (some 35))]) (w' := (SH, dt41)) rfl ?_
            refine go_callq PM32 PM30 (Q' := _) rfl rfl rfl rfl (sp_X1_emit_f L xs sio (d + 2) dt41 hI42  (-7) ⟨by decide, by decide⟩ ) ?_
            rintro _ _ ⟨dt52, rfl, hI53, hF54, h51⟩
            refine ⟨rfl, ?_⟩
            have hF55 : Fr [35, 42] dt dt52 := Fr_tr hF44 hF54 (by decide)
            rcases h51 with ⟨rfl, h51⟩
            obtain ⟨h51_0, h51_1, h51_2, h51_3, h51_4, h51_5, h51_6⟩ := h51
            replace h51_0 := hid h51_0
            replace h51_1 := hid h51_1
            have X56 : PX S t (gC K V 0) gOk dt dt52 := PX_sm X45 (by omega) (by omega) (by omega)
            have ek57 : (dt52 35 8).toNat = (dt41 35 8).toNat := by omega
            have kk58 : K (dt52 35 8).toNat = K (dt41 35 8).toNat := congrArg K ek57
            have kk59 : V (dt52 35 8).toNat = V (dt41 35 8).toNat := congrArg V ek57
            have Q60 : QX (eC K V 0) eNl dt dt52 := QX_st Q46 (fun z_ => by omega) (by omega) (fun z_ => h51_0 (by (have z_ := unhid c49; omega))) (fun z_ => by (try rw [show (dt52 35 8).toNat = (dt41 35 8).toNat by first | with_reducible assumption | exact unhid (by with_reducible assumption) | fail]); first | done | (show [opc (K (dt18 35 8).toNat)] = [(-7)] ++ []; unfold opc; first | (rw [if_pos (by omega)]; rfl) | (rw [if_neg (by (have z_ := unhid c49; omega)), if_pos (by (have z_ := unhid c49; omega))]; rfl) | (rw [if_neg (by (have z_ := unhid c49; omega)), if_neg (by omega)]; rfl)))
            have ql61 := hid (fun (z_ : dt52 35 2 = 0) => (Q60 z_).1)
            refine go_retq PM32 (k := 1) (r := none) (w1 := (SH, dt52)) rfl ?_
            exact ⟨dt52, rfl, hI53, hF55, ⟨rfl, ⟨by exact PX_e X56 (by omega), by first | exact True.intro | with_reducible assumption | exact unhid (by with_reducible assumption) | rfl | omega | trivial, by first | exact True.intro | with_reducible assumption | exact unhid (by with_reducible assumption) | rfl | (have z_ := unhid h40_2; omega) | trivial, by first | exact True.intro | with_reducible assumption | exact unhid (by with_reducible assumption) | rfl | omega | trivial, by first | (intro z_; exfalso; (have z_ := unhid c49; omega)) | exact QX_e Q60, by first | exact True.intro | with_reducible assumption | exact unhid (by with_reducible assumption) | rfl | (have z_ := unhid c49; omega) | trivial, by first | exact True.intro | with_reducible assumption | exact unhid (by with_reducible assumption) | rfl | omega | trivial, by first | exact True.intro | with_reducible assumption | exact unhid (by with_reducible assumption) | rfl | omega | trivial⟩⟩⟩
          · exfalso; omega
        · skip
          refine go_toq PM32 (k := 2) (pc' := 101) (L' := [some (.inr (.inr (some 35))), some (.inl 8), some (.inl 0), some (.inl v_h26)]) (st' := [.inl (-5), .inr (.inr (some 35))]) (w' := (SH, dt41)) rfl ?_
          refine go_callq PM32 PM30 (Q' := _) rfl rfl rfl rfl (sp_X1_emit_f L xs sio (d + 2) dt41 hI42  (-5) ⟨by decide, by decide⟩ ) ?_
          rintro _ _ ⟨dt63, rfl, hI64, hF65, h62⟩
          refine ⟨rfl, ?_⟩
          have hF66 : Fr [35, 42] dt dt63 := Fr_tr hF44 hF65 (by decide)
          rcases h62 with ⟨rfl, h62⟩
          obtain ⟨h62_0, h62_1, h62_2, h62_3, h62_4, h62_5, h62_6⟩ := h62
          replace h62_0 := hid h62_0
          replace h62_1 := hid h62_1
          have u17_ := hid (And.intro (unhid h_p2) (And.intro (unhid h_p3) (And.intro (unhid hv0) (And.intro (unhid c5) (And.intro (unhid c8) (And.intro (unhid h17_2) (And.intro (unhid h17_5) (And.intro (unhid ql24) (And.intro (unhid ql25) (And.intro (unhid h40_2) (And.intro (unhid h40_5) (And.intro (unhid ql47) (And.intro (unhid ql48) (unhid h62_1))))))))))))))
          have X67 : PX S t (gC K V 0) gOk dt dt63 := PX_sm X45 (by omega) (by omega) (by omega)
          have ek68 : (dt63 35 8).toNat = (dt41 35 8).toNat := by omega
          have kk69 : K (dt63 35 8).toNat = K (dt41 35 8).toNat := congrArg K ek68
          have kk70 : V (dt63 35 8).toNat = V (dt41 35 8).toNat := congrArg V ek68
          have Q71 : QX (eC K V 0) eNl dt dt63 := QX_st Q46 (fun z_ => by omega) (by omega) (fun z_ => h62_0 (by (have z_ := unhid u17_; omega))) (fun z_ => by (try rw [show (dt63 35 8).toNat = (dt41 35 8).toNat by first | with_reducible assumption | exact unhid (by with_reducible assumption) | fail]); first | done | (show [opc (K (dt18 35 8).toNat)] = [(-5)] ++ []; unfold opc; first | (rw [if_pos (by omega)]; rfl) | (rw [if_neg (by fail), if_pos (by fail)]; rfl) | (rw [if_neg (by fail), if_neg (by fail)]; rfl)))
          have ql72 := hid (fun (z_ : dt63 35 2 = 0) => (Q71 z_).1)
          refine go_retq PM32 (k := 1) (r := none) (w1 := (SH, dt63)) rfl ?_
          have u19_ := hid (And.intro (unhid h_p2) (And.intro (unhid h_p3) (And.intro (unhid hv0) (And.intro (unhid c5) (And.intro (unhid c8) (And.intro (unhid h17_2) (And.intro (unhid h17_5) (And.intro (unhid ql24) (And.intro (unhid ql25) (And.intro (unhid h40_2) (And.intro (unhid h40_5) (And.intro (unhid ql47) (And.intro (unhid ql48) (And.intro (unhid h62_1) (unhid ql72)))))))))))))))
          exact ⟨dt63, rfl, hI64, hF66, ⟨rfl, ⟨by exact PX_e X67 (by omega), by first | exact True.intro | with_reducible assumption | exact unhid (by with_reducible assumption) | rfl | omega | trivial, by first | exact True.intro | with_reducible assumption | exact unhid (by with_reducible assumption) | rfl | (have z_ := unhid h40_2; omega) | trivial, by first | exact True.intro | with_reducible assumption | exact unhid (by with_reducible assumption) | rfl | omega | trivial, by first | (intro z_; exfalso; fail) | exact QX_e Q71, by first | exact True.intro | with_reducible assumption | exact unhid (by with_reducible assumption) | rfl | (have z_ := unhid u19_; omega) | trivial, by first | exact True.intro | with_reducible assumption | exact unhid (by with_reducible assumption) | rfl | omega | trivial, by first | exact True.intro | with_reducible assumption | exact unhid (by with_reducible assumption) | rfl | omega | trivial⟩⟩⟩
      · skip
        replace c28 := hid c28
        refine go_ifq PM32 (k := 2) (p1 := 62) (p2 := 50) (L' := [some (.inr (.inr (some 35))), some (.inl 8), some (.inl 0), some (.inl v_h26)]) (st' := []) (w' := (SH, dt18)) rfl (c_eq (a := v_h26) (b := 61) (by first | exact bnd h26r (by decide) (by decide) | exact ⟨by fail, by fail⟩) ⟨by decide, by decide⟩) (fun c73 => ?_) (fun c73 => ?_)
        · skip
          refine go_toq PM32 (k := 5) (pc' := 69) (L' := [some (.inr (.inr (some 35))), some (.inl 8), some (.inl 0), some (.inl v_h26)]) (st' := [.inl ((dt18 35 8) + 1), .inr (.inr (some 35))]) (w' := (SH, dt18)) rfl ?_
          have hI74 : InvC (u2 dt18 35 8 ((dt18 35 8) + 1)) := InvC_u2 hI19 (lo := -2147483648) (hi := 2147483647) rfl rfl rfl (by omega) (by omega)
          have hF75 : Fr [35, 42] dt (u2 dt18 35 8 ((dt18 35 8) + 1)) := Fr_u2 hF21 (by decide)
          have w76 : (u2 dt18 35 8 ((dt18 35 8) + 1)) 35 1 = dt18 35 1 := rfl
          have w77 : (u2 dt18 35 8 ((dt18 35 8) + 1)) 35 2 = dt18 35 2 := rfl
          have w78 : (u2 dt18 35 8 ((dt18 35 8) + 1)) 35 3 = dt18 35 3 := rfl
          have w79 : (u2 dt18 35 8 ((dt18 35 8) + 1)) 35 7 = dt18 35 7 := rfl
          have w80 : (u2 dt18 35 8 ((dt18 35 8) + 1)) 35 8 = (dt18 35 8) + 1 := rfl
          have w81 : (u2 dt18 35 8 ((dt18 35 8) + 1)) 35 12 = dt18 35 12 := rfl
          have lv84 := KLIVE hz (D := dt18) (by omega) (by omega) (by (have z_ := unhid h17_2; omega))
          have X83 : PX S t (gC K V 0) (gE K V) dt (u2 dt18 35 8 ((dt18 35 8) + 1)) := PX_st X22 (SPX_inc hz (by omega) (by omega) (by omega) (by omega) (by omega)) (fun hl => by first | (show (gR1 K V) (dt18 35 8).toNat = (gE K V) ((dt18 35 8).toNat + 1); unfold gR1; rw [if_pos (by omega)]) | (exfalso; fail))
          refine go_smpq PM32 (L' := [some (.inr (.inr (some 35))), some (.inl 8), some (.inl 0), some (.inl v_h26)]) (st' := []) (w' := (SH, (u2 dt18 35 8 ((dt18 35 8) + 1)))) rfl rfl (s_pf rfl rfl rfl rfl ⟨by omega, by omega⟩) ?_
          refine go_toq PM32 (k := 1) (pc' := 73) (L' := [some (.inr (.inr (some 35))), some (.inl 8), some (.inl 0), some (.inl v_h26)]) (st' := [.inr (.inr (some 35))]) (w' := (SH, (u2 dt18 35 8 ((dt18 35 8) + 1)))) rfl ?_
          refine go_callq PM32 PM33 (Q' := _) rfl rfl rfl rfl (sp_X1_sum_f L xs sio (d + 0) (u2 dt18 35 8 ((dt18 35 8) + 1)) hI74 K V S t hz ht  (by first | with_reducible assumption | exact unhid (by with_reducible assumption) | exact TKc_fr h_p0 hF75 (by decide) (by decide) (by decide) (by omega) | fail) (by first | with_reducible assumption | exact unhid (by with_reducible assumption) | exact TKc_fr h_p0 hF75 (by decide) (by decide) (by decide) (by omega) | omega) (by first | with_reducible assumption | exact unhid (by with_reducible assumption) | exact TKc_fr h_p0 hF75 (by decide) (by decide) (by decide) (by omega) | omega) (by first | with_reducible assumption | exact unhid (by with_reducible assumption) | exact TKc_fr h_p0 hF75 (by decide) (by decide) (by decide) (by omega) | (have z_ := unhid v7_; omega))) ?_
          rintro _ _ ⟨dt86, rfl, hI87, hF88, h85⟩
          refine ⟨rfl, ?_⟩
          have hF89 : Fr [35, 42] dt dt86 := Fr_tr hF75 hF88 (by decide)
          rcases h85 with ⟨rfl, h85⟩
          obtain ⟨h85_0, h85_1, h85_2, h85_3, h85_4, h85_5, h85_6, h85_7⟩ := h85
          replace h85_2 := hid h85_2
          replace h85_4 := hid h85_4
          replace h85_5 := hid h85_5
          have X90 : PX S t (gC K V 0) gOk dt dt86 := PX_st X83 h85_0 (fun hl => by first | exact gB_id.symm | (exfalso; fail))
          have Q91 : QX (eC K V 0) (fun _ => [opc (K (dt18 35 8).toNat)]) dt dt86 := QX_st Q23 (fun z_ => by have y_ := SPX_ok h85_0 (by first | with_reducible assumption | exact unhid (by with_reducible assumption) | omega) z_; first | exact y_.1 | fail) (by omega) (fun z_ => CDX_l (D' := (u2 dt18 35 8 ((dt18 35 8) + 1))) rfl (fun j => u2_ne (by omega)) ((fun z_ => h85_4 z_) z_)) (fun z_ => by have y_ := SPX_ok h85_0 (by first | with_reducible assumption | exact unhid (by with_reducible assumption) | omega) z_; (try rw [y_.2.2]); have hl := y_.2.1; rw [show ((u2 dt18 35 8 ((dt18 35 8) + 1)) 35 8).toNat = (dt18 35 8).toNat + 1 by first | with_reducible assumption | exact unhid (by with_reducible assumption) | omega] at hl ⊢; first | done | (rfl))
          have ql92 := fun (z_ : dt86 35 2 = 0) => (SPX_ok h85_0 (by first | with_reducible assumption | exact unhid (by with_reducible assumption) | omega) z_).1
          replace ql92 := hid ql92
          have ql93 := hid (fun (z_ : dt86 35 2 = 0) => (Q91 z_).1)
          refine go_ifq PM32 (k := 3) (p1 := 88) (p2 := 83) (L' := [some (.inr (.inr (some 35))), some (.inl 8), some (.inl 0), some (.inl v_h26)]) (st' := [.inr (.inr (some 35))]) (w' := (SH, dt86)) rfl (c_ne (a := v_h26) (b := 60) (by first | exact bnd h26r (by decide) (by decide) | exact ⟨by fail, by fail⟩) ⟨by decide, by decide⟩) (fun c94 => ?_) (fun c94 => ?_)
          · skip
            replace c94 := hid c94
            refine go_ifq PM32 (k := 2) (p1 := 99) (p2 := 94) (L' := [some (.inr (.inr (some 35))), some (.inl 8), some (.inl 0), some (.inl v_h26)]) (st' := [.inr (.inr (some 35))]) (w' := (SH, dt86)) rfl (c_ne (a := v_h26) (b := 61) (by first | exact bnd h26r (by decide) (by decide) | exact ⟨by fail, by fail⟩) ⟨by decide, by decide⟩) (fun c95 => ?_) (fun c95 => ?_)
            · skip
              replace c95 := hid c95
              refine go_toq PM32 (k := 1) (pc' := 101) (L' := [some (.inr (.inr (some 35))), some (.inl 8), some (.inl 0), some (.inl v_h26)]) (st' := [.inl (-7), .inr (.inr (some 35))]) (w' := (SH, dt86)) rfl ?_
              refine go_callq PM32 PM30 (Q' := _) rfl rfl rfl rfl (sp_X1_emit_f L xs sio (d + 2) dt86 hI87  (-7) ⟨by decide, by decide⟩ ) ?_
              rintro _ _ ⟨dt97, rfl, hI98, hF99, h96⟩
              refine ⟨rfl, ?_⟩
              have hF100 : Fr [35, 42] dt dt97 := Fr_tr hF89 hF99 (by decide)
              rcases h96 with ⟨rfl, h96⟩
              obtain ⟨h96_0, h96_1, h96_2, h96_3, h96_4, h96_5, h96_6⟩ := h96
              replace h96_0 := hid h96_0
              replace h96_1 := hid h96_1
              have X101 : PX S t (gC K V 0) gOk dt dt97 := PX_sm X90 (by omega) (by omega) (by omega)
              have ek102 : (dt97 35 8).toNat = (dt86 35 8).toNat := by omega
              have kk103 : K (dt97 35 8).toNat = K (dt86 35 8).toNat := congrArg K ek102
              have kk104 : V (dt97 35 8).toNat = V (dt86 35 8).toNat := congrArg V ek102
              have Q105 : QX (eC K V 0) eNl dt dt97 := QX_st Q91 (fun z_ => by omega) (by omega) (fun z_ => h96_0 (by (have z_ := unhid c95; omega))) (fun z_ => by (try rw [show (dt97 35 8).toNat = (dt86 35 8).toNat by first | with_reducible assumption | exact unhid (by with_reducible assumption) | fail]); first | done | (show [opc (K (dt18 35 8).toNat)] = [(-7)] ++ []; unfold opc; first | (rw [if_pos (by (have z_ := unhid c95; omega))]; rfl) | (rw [if_neg (by omega), if_pos (by omega)]; rfl) | (rw [if_neg (by omega), if_neg (by (have z_ := unhid c95; omega))]; rfl)))
              have ql106 := hid (fun (z_ : dt97 35 2 = 0) => (Q105 z_).1)
              refine go_retq PM32 (k := 1) (r := none) (w1 := (SH, dt97)) rfl ?_
              exact ⟨dt97, rfl, hI98, hF100, ⟨rfl, ⟨by exact PX_e X101 (by omega), by first | exact True.intro | with_reducible assumption | exact unhid (by with_reducible assumption) | rfl | omega | trivial, by first | exact True.intro | with_reducible assumption | exact unhid (by with_reducible assumption) | rfl | (have z_ := unhid h85_2; omega) | trivial, by first | exact True.intro | with_reducible assumption | exact unhid (by with_reducible assumption) | rfl | omega | trivial, by first | (intro z_; exfalso; (have z_ := unhid c95; omega)) | exact QX_e Q105, by first | exact True.intro | with_reducible assumption | exact unhid (by with_reducible assumption) | rfl | (have z_ := unhid c95; omega) | trivial, by first | exact True.intro | with_reducible assumption | exact unhid (by with_reducible assumption) | rfl | omega | trivial, by first | exact True.intro | with_reducible assumption | exact unhid (by with_reducible assumption) | rfl | omega | trivial⟩⟩⟩
            · skip
              refine go_toq PM32 (k := 2) (pc' := 101) (L' := [some (.inr (.inr (some 35))), some (.inl 8), some (.inl 0), some (.inl v_h26)]) (st' := [.inl (-6), .inr (.inr (some 35))]) (w' := (SH, dt86)) rfl ?_
              refine go_callq PM32 PM30 (Q' := _) rfl rfl rfl rfl (sp_X1_emit_f L xs sio (d + 2) dt86 hI87  (-6) ⟨by decide, by decide⟩ ) ?_
              rintro _ _ ⟨dt108, rfl, hI109, hF110, h107⟩
              refine ⟨rfl, ?_⟩
              have hF111 : Fr [35, 42] dt dt108 := Fr_tr hF89 hF110 (by decide)
              rcases h107 with ⟨rfl, h107⟩
              obtain ⟨h107_0, h107_1, h107_2, h107_3, h107_4, h107_5, h107_6⟩ := h107
              replace h107_0 := hid h107_0
              replace h107_1 := hid h107_1
              have u31_ := hid (And.intro (unhid h_p2) (And.intro (unhid h_p3) (And.intro (unhid hv0) (And.intro (unhid c5) (And.intro (unhid c8) (And.intro (unhid h17_2) (And.intro (unhid h17_5) (And.intro (unhid ql24) (And.intro (unhid ql25) (And.intro (unhid c28) (And.intro (unhid h85_2) (And.intro (unhid h85_5) (And.intro (unhid ql92) (And.intro (unhid ql93) (And.intro (unhid c94) (unhid h107_1))))))))))))))))
              have X112 : PX S t (gC K V 0) gOk dt dt108 := PX_sm X90 (by omega) (by omega) (by omega)
              have ek113 : (dt108 35 8).toNat = (dt86 35 8).toNat := by omega
              have kk114 : K (dt108 35 8).toNat = K (dt86 35 8).toNat := congrArg K ek113
              have kk115 : V (dt108 35 8).toNat = V (dt86 35 8).toNat := congrArg V ek113
              have Q116 : QX (eC K V 0) eNl dt dt108 := QX_st Q91 (fun z_ => by omega) (by omega) (fun z_ => h107_0 (by (have z_ := unhid u31_; omega))) (fun z_ => by (try rw [show (dt108 35 8).toNat = (dt86 35 8).toNat by first | with_reducible assumption | exact unhid (by with_reducible assumption) | fail]); first | done | (show [opc (K (dt18 35 8).toNat)] = [(-6)] ++ []; unfold opc; first | (rw [if_pos (by fail)]; rfl) | (rw [if_neg (by omega), if_pos (by omega)]; rfl) | (rw [if_neg (by fail), if_neg (by fail)]; rfl)))
              have ql117 := hid (fun (z_ : dt108 35 2 = 0) => (Q116 z_).1)
              refine go_retq PM32 (k := 1) (r := none) (w1 := (SH, dt108)) rfl ?_
              have u33_ := hid (And.intro (unhid h_p2) (And.intro (unhid h_p3) (And.intro (unhid hv0) (And.intro (unhid c5) (And.intro (unhid c8) (And.intro (unhid h17_2) (And.intro (unhid h17_5) (And.intro (unhid ql24) (And.intro (unhid ql25) (And.intro (unhid c28) (And.intro (unhid h85_2) (And.intro (unhid h85_5) (And.intro (unhid ql92) (And.intro (unhid ql93) (And.intro (unhid c94) (And.intro (unhid h107_1) (unhid ql117)))))))))))))))))
              exact ⟨dt108, rfl, hI109, hF111, ⟨rfl, ⟨by exact PX_e X112 (by omega), by first | exact True.intro | with_reducible assumption | exact unhid (by with_reducible assumption) | rfl | omega | trivial, by first | exact True.intro | with_reducible assumption | exact unhid (by with_reducible assumption) | rfl | (have z_ := unhid h85_2; omega) | trivial, by first | exact True.intro | with_reducible assumption | exact unhid (by with_reducible assumption) | rfl | omega | trivial, by first | (intro z_; exfalso; fail) | exact QX_e Q116, by first | exact True.intro | with_reducible assumption | exact unhid (by with_reducible assumption) | rfl | (have z_ := unhid u33_; omega) | trivial, by first | exact True.intro | with_reducible assumption | exact unhid (by with_reducible assumption) | rfl | omega | trivial, by first | exact True.intro | with_reducible assumption | exact unhid (by with_reducible assumption) | rfl | omega | trivial⟩⟩⟩
          · exfalso; omega
        · skip
          replace c73 := hid c73
          refine go_ifq PM32 (k := 2) (p1 := 62) (p2 := 56) (L' := [some (.inr (.inr (some 35))), some (.inl 8), some (.inl 0), some (.inl v_h26)]) (st' := []) (w' := (SH, dt18)) rfl (c_eq (a := v_h26) (b := 62) (by first | exact bnd h26r (by decide) (by decide) | exact ⟨by fail, by fail⟩) ⟨by decide, by decide⟩) (fun c118 => ?_) (fun c118 => ?_)
          · skip
            refine go_toq PM32 (k := 5) (pc' := 69) (L' := [some (.inr (.inr (some 35))), some (.inl 8), some (.inl 0), some (.inl v_h26)]) (st' := [.inl ((dt18 35 8) + 1), .inr (.inr (some 35))]) (w' := (SH, dt18)) rfl ?_
            have hI119 : InvC (u2 dt18 35 8 ((dt18 35 8) + 1)) := InvC_u2 hI19 (lo := -2147483648) (hi := 2147483647) rfl rfl rfl (by omega) (by omega)
            have hF120 : Fr [35, 42] dt (u2 dt18 35 8 ((dt18 35 8) + 1)) := Fr_u2 hF21 (by decide)
            have w121 : (u2 dt18 35 8 ((dt18 35 8) + 1)) 35 1 = dt18 35 1 := rfl
            have w122 : (u2 dt18 35 8 ((dt18 35 8) + 1)) 35 2 = dt18 35 2 := rfl
            have w123 : (u2 dt18 35 8 ((dt18 35 8) + 1)) 35 3 = dt18 35 3 := rfl
            have w124 : (u2 dt18 35 8 ((dt18 35 8) + 1)) 35 7 = dt18 35 7 := rfl
            have w125 : (u2 dt18 35 8 ((dt18 35 8) + 1)) 35 8 = (dt18 35 8) + 1 := rfl
            have w126 : (u2 dt18 35 8 ((dt18 35 8) + 1)) 35 12 = dt18 35 12 := rfl
            have lv129 := KLIVE hz (D := dt18) (by omega) (by omega) (by (have z_ := unhid h17_2; omega))
            have X128 : PX S t (gC K V 0) (gE K V) dt (u2 dt18 35 8 ((dt18 35 8) + 1)) := PX_st X22 (SPX_inc hz (by omega) (by omega) (by omega) (by omega) (by omega)) (fun hl => by first | (show (gR1 K V) (dt18 35 8).toNat = (gE K V) ((dt18 35 8).toNat + 1); unfold gR1; rw [if_pos (by omega)]) | (exfalso; fail))
            refine go_smpq PM32 (L' := [some (.inr (.inr (some 35))), some (.inl 8), some (.inl 0), some (.inl v_h26)]) (st' := []) (w' := (SH, (u2 dt18 35 8 ((dt18 35 8) + 1)))) rfl rfl (s_pf rfl rfl rfl rfl ⟨by omega, by omega⟩) ?_
            refine go_toq PM32 (k := 1) (pc' := 73) (L' := [some (.inr (.inr (some 35))), some (.inl 8), some (.inl 0), some (.inl v_h26)]) (st' := [.inr (.inr (some 35))]) (w' := (SH, (u2 dt18 35 8 ((dt18 35 8) + 1)))) rfl ?_
            refine go_callq PM32 PM33 (Q' := _) rfl rfl rfl rfl (sp_X1_sum_f L xs sio (d + 0) (u2 dt18 35 8 ((dt18 35 8) + 1)) hI119 K V S t hz ht  (by first | with_reducible assumption | exact unhid (by with_reducible assumption) | exact TKc_fr h_p0 hF120 (by decide) (by decide) (by decide) (by omega) | fail) (by first | with_reducible assumption | exact unhid (by with_reducible assumption) | exact TKc_fr h_p0 hF120 (by decide) (by decide) (by decide) (by omega) | omega) (by first | with_reducible assumption | exact unhid (by with_reducible assumption) | exact TKc_fr h_p0 hF120 (by decide) (by decide) (by decide) (by omega) | omega) (by first | with_reducible assumption | exact unhid (by with_reducible assumption) | exact TKc_fr h_p0 hF120 (by decide) (by decide) (by decide) (by omega) | (have z_ := unhid v7_; omega))) ?_
            rintro _ _ ⟨dt131, rfl, hI132, hF133, h130⟩
            refine ⟨rfl, ?_⟩
            have hF134 : Fr [35, 42] dt dt131 := Fr_tr hF120 hF133 (by decide)
            rcases h130 with ⟨rfl, h130⟩
            obtain ⟨h130_0, h130_1, h130_2, h130_3, h130_4, h130_5, h130_6, h130_7⟩ := h130
            replace h130_2 := hid h130_2
            replace h130_4 := hid h130_4
            replace h130_5 := hid h130_5
            have X135 : PX S t (gC K V 0) gOk dt dt131 := PX_st X128 h130_0 (fun hl => by first | exact gB_id.symm | (exfalso; fail))
            have Q136 : QX (eC K V 0) (fun _ => [opc (K (dt18 35 8).toNat)]) dt dt131 := QX_st Q23 (fun z_ => by have y_ := SPX_ok h130_0 (by first | with_reducible assumption | exact unhid (by with_reducible assumption) | omega) z_; first | exact y_.1 | fail) (by omega) (fun z_ => CDX_l (D' := (u2 dt18 35 8 ((dt18 35 8) + 1))) rfl (fun j => u2_ne (by omega)) ((fun z_ => h130_4 z_) z_)) (fun z_ => by have y_ := SPX_ok h130_0 (by first | with_reducible assumption | exact unhid (by with_reducible assumption) | omega) z_; (try rw [y_.2.2]); have hl := y_.2.1; rw [show ((u2 dt18 35 8 ((dt18 35 8) + 1)) 35 8).toNat = (dt18 35 8).toNat + 1 by first | with_reducible assumption | exact unhid (by with_reducible assumption) | omega] at hl ⊢; first | done | (rfl))
            have ql137 := fun (z_ : dt131 35 2 = 0) => (SPX_ok h130_0 (by first | with_reducible assumption | exact unhid (by with_reducible assumption) | omega) z_).1
            replace ql137 := hid ql137
            have ql138 := hid (fun (z_ : dt131 35 2 = 0) => (Q136 z_).1)
            refine go_ifq PM32 (k := 3) (p1 := 88) (p2 := 83) (L' := [some (.inr (.inr (some 35))), some (.inl 8), some (.inl 0), some (.inl v_h26)]) (st' := [.inr (.inr (some 35))]) (w' := (SH, dt131)) rfl (c_ne (a := v_h26) (b := 60) (by first | exact bnd h26r (by decide) (by decide) | exact ⟨by fail, by fail⟩) ⟨by decide, by decide⟩) (fun c139 => ?_) (fun c139 => ?_)
            · skip
              replace c139 := hid c139
              refine go_ifq PM32 (k := 2) (p1 := 99) (p2 := 94) (L' := [some (.inr (.inr (some 35))), some (.inl 8), some (.inl 0), some (.inl v_h26)]) (st' := [.inr (.inr (some 35))]) (w' := (SH, dt131)) rfl (c_ne (a := v_h26) (b := 61) (by first | exact bnd h26r (by decide) (by decide) | exact ⟨by fail, by fail⟩) ⟨by decide, by decide⟩) (fun c140 => ?_) (fun c140 => ?_)
              · skip
                replace c140 := hid c140
                refine go_toq PM32 (k := 1) (pc' := 101) (L' := [some (.inr (.inr (some 35))), some (.inl 8), some (.inl 0), some (.inl v_h26)]) (st' := [.inl (-7), .inr (.inr (some 35))]) (w' := (SH, dt131)) rfl ?_
                refine go_callq PM32 PM30 (Q' := _) rfl rfl rfl rfl (sp_X1_emit_f L xs sio (d + 2) dt131 hI132  (-7) ⟨by decide, by decide⟩ ) ?_
                rintro _ _ ⟨dt142, rfl, hI143, hF144, h141⟩
                refine ⟨rfl, ?_⟩
                have hF145 : Fr [35, 42] dt dt142 := Fr_tr hF134 hF144 (by decide)
                rcases h141 with ⟨rfl, h141⟩
                obtain ⟨h141_0, h141_1, h141_2, h141_3, h141_4, h141_5, h141_6⟩ := h141
                replace h141_0 := hid h141_0
                replace h141_1 := hid h141_1
                have u41_ := hid (And.intro (unhid h_p2) (And.intro (unhid h_p3) (And.intro (unhid hv0) (And.intro (unhid c5) (And.intro (unhid c8) (And.intro (unhid h17_2) (And.intro (unhid h17_5) (And.intro (unhid ql24) (And.intro (unhid ql25) (And.intro (unhid c28) (And.intro (unhid c73) (And.intro (unhid h130_2) (And.intro (unhid h130_5) (And.intro (unhid ql137) (And.intro (unhid ql138) (And.intro (unhid c139) (And.intro (unhid c140) (unhid h141_1))))))))))))))))))
                have X146 : PX S t (gC K V 0) gOk dt dt142 := PX_sm X135 (by omega) (by omega) (by omega)
                have ek147 : (dt142 35 8).toNat = (dt131 35 8).toNat := by omega
                have kk148 : K (dt142 35 8).toNat = K (dt131 35 8).toNat := congrArg K ek147
                have kk149 : V (dt142 35 8).toNat = V (dt131 35 8).toNat := congrArg V ek147
                have Q150 : QX (eC K V 0) eNl dt dt142 := QX_st Q136 (fun z_ => by omega) (by omega) (fun z_ => h141_0 (by (have z_ := unhid u41_; omega))) (fun z_ => by (try rw [show (dt142 35 8).toNat = (dt131 35 8).toNat by first | with_reducible assumption | exact unhid (by with_reducible assumption) | fail]); first | done | (show [opc (K (dt18 35 8).toNat)] = [(-7)] ++ []; unfold opc; first | (rw [if_pos (by fail)]; rfl) | (rw [if_neg (by omega), if_pos (by fail)]; rfl) | (rw [if_neg (by omega), if_neg (by omega)]; rfl)))
                have ql151 := hid (fun (z_ : dt142 35 2 = 0) => (Q150 z_).1)
                refine go_retq PM32 (k := 1) (r := none) (w1 := (SH, dt142)) rfl ?_
                have u43_ := hid (And.intro (unhid h_p2) (And.intro (unhid h_p3) (And.intro (unhid hv0) (And.intro (unhid c5) (And.intro (unhid c8) (And.intro (unhid h17_2) (And.intro (unhid h17_5) (And.intro (unhid ql24) (And.intro (unhid ql25) (And.intro (unhid c28) (And.intro (unhid c73) (And.intro (unhid h130_2) (And.intro (unhid h130_5) (And.intro (unhid ql137) (And.intro (unhid ql138) (And.intro (unhid c139) (And.intro (unhid c140) (And.intro (unhid h141_1) (unhid ql151)))))))))))))))))))
                exact ⟨dt142, rfl, hI143, hF145, ⟨rfl, ⟨by exact PX_e X146 (by omega), by first | exact True.intro | with_reducible assumption | exact unhid (by with_reducible assumption) | rfl | omega | trivial, by first | exact True.intro | with_reducible assumption | exact unhid (by with_reducible assumption) | rfl | (have z_ := unhid h130_2; omega) | trivial, by first | exact True.intro | with_reducible assumption | exact unhid (by with_reducible assumption) | rfl | omega | trivial, by first | (intro z_; exfalso; fail) | exact QX_e Q150, by first | exact True.intro | with_reducible assumption | exact unhid (by with_reducible assumption) | rfl | (have z_ := unhid u43_; omega) | trivial, by first | exact True.intro | with_reducible assumption | exact unhid (by with_reducible assumption) | rfl | omega | trivial, by first | exact True.intro | with_reducible assumption | exact unhid (by with_reducible assumption) | rfl | omega | trivial⟩⟩⟩
              · exfalso; omega
            · exfalso; omega
          · skip
            replace c118 := hid c118
            refine go_toq PM32 (k := 2) (pc' := 58) (L' := [some (.inr (.inr (some 35))), some (.inl 8), some (.inl 0), some (.inl v_h26)]) (st' := [.inl 1, .inr (.inr (some 35))]) (w' := (SH, dt18)) rfl ?_
            refine go_callq PM32 PM21 (Q' := _) rfl rfl rfl rfl (sp_X1_fail_f L xs sio (d + 2) dt18 hI19 K V S t hz ht 1 ⟨by decide, by decide⟩ (by first | with_reducible assumption | exact unhid (by with_reducible assumption) | exact TKc_fr h_p0 hF21 (by decide) (by decide) (by decide) (by omega) | fail) (by first | with_reducible assumption | exact unhid (by with_reducible assumption) | exact TKc_fr h_p0 hF21 (by decide) (by decide) (by decide) (by fail) | fail) (by first | with_reducible assumption | exact unhid (by with_reducible assumption) | exact TKc_fr h_p0 hF21 (by decide) (by decide) (by decide) (by fail) | fail)) ?_
            rintro _ _ ⟨dt153, rfl, hI154, hF155, h152⟩
            refine ⟨rfl, ?_⟩
            have hF156 : Fr [35, 42] dt dt153 := Fr_tr hF21 hF155 (by decide)
            rcases h152 with ⟨rfl, h152⟩
            obtain ⟨h152_0, h152_1, h152_2, h152_3, h152_4, h152_5⟩ := h152
            replace h152_2 := hid h152_2
            have u46_ := hid (And.intro (unhid h_p2) (And.intro (unhid h_p3) (And.intro (unhid hv0) (And.intro (unhid c5) (And.intro (unhid c8) (And.intro (unhid h17_2) (And.intro (unhid h17_5) (And.intro (unhid ql24) (And.intro (unhid ql25) (And.intro (unhid c28) (And.intro (unhid c73) (And.intro (unhid c118) (unhid h152_2)))))))))))))
            have X157 : PX S t (gC K V 0) gOk dt dt153 := PX_st X22 h152_0 (fun hl => by first | exact (by unfold gR1; rw [if_neg (by (have z_ := unhid u46_; omega))] : _ = ((1 : Int), (dt18 35 8).toNat)).trans (gB_no (by show ¬ ((1 : Int) = 0); omega)).symm | (exfalso; fail))
            have Q158 : QX (eC K V 0) eNl dt dt153 := QX_no (by (have z_ := unhid h152_2; omega))
            have ql159 := hid (fun (z_ : dt153 35 2 = 0) => (Q158 z_).1)
            refine go_retq PM32 (k := 0) (r := none) (w1 := (SH, dt153)) rfl ?_
            exact ⟨dt153, rfl, hI154, hF156, ⟨rfl, ⟨by exact PX_e X157 (by omega), by first | exact True.intro | with_reducible assumption | exact unhid (by with_reducible assumption) | rfl | omega | trivial, by first | exact True.intro | with_reducible assumption | exact unhid (by with_reducible assumption) | rfl | omega | trivial, by first | exact True.intro | with_reducible assumption | exact unhid (by with_reducible assumption) | rfl | omega | trivial, by first | (intro z_; exfalso; (have z_ := unhid h152_2; omega)) | exact QX_e Q158, by first | exact True.intro | with_reducible assumption | exact unhid (by with_reducible assumption) | rfl | (have z_ := unhid h152_2; omega) | trivial, by first | exact True.intro | with_reducible assumption | exact unhid (by with_reducible assumption) | rfl | omega | trivial, by first | exact True.intro | with_reducible assumption | exact unhid (by with_reducible assumption) | rfl | omega | trivial⟩⟩⟩
  · skip
    refine go_toq PM32 (k := 10) (pc' := 115) (L' := [some (.inr (.inr (some 35))), some (.inl 8), some (.inl 1), none]) (st' := [.inl 3, .inr (.inr (some 35))]) (w' := (SH, dt)) rfl ?_
    refine go_callq PM32 PM21 (Q' := _) rfl rfl rfl rfl (sp_X1_fail_f L xs sio (d + 2) dt hI K V S t hz ht 3 ⟨by decide, by decide⟩ (by first | with_reducible assumption | exact unhid (by with_reducible assumption) | exact TKc_fr h_p0 hF (by decide) (by decide) (by decide) (by fail) | fail) (by first | with_reducible assumption | exact unhid (by with_reducible assumption) | exact TKc_fr h_p0 hF (by decide) (by decide) (by decide) (by fail) | fail) (by first | with_reducible assumption | exact unhid (by with_reducible assumption) | exact TKc_fr h_p0 hF (by decide) (by decide) (by decide) (by fail) | fail)) ?_
    rintro _ _ ⟨dt161, rfl, hI162, hF163, h160⟩
    refine ⟨rfl, ?_⟩
    have hF164 : Fr [35, 42] dt dt161 := Fr_tr hF hF163 (by decide)
    rcases h160 with ⟨rfl, h160⟩
    obtain ⟨h160_0, h160_1, h160_2, h160_3, h160_4, h160_5⟩ := h160
    replace h160_2 := hid h160_2
    have X165 : PX S t (gC K V 0) gOk dt dt161 := PX_st PX_0 h160_0 (fun hl => by first | exact (by exact gC_3 (by omega) : _ = ((3 : Int), (dt 35 8).toNat)).trans (gB_no (by show ¬ ((3 : Int) = 0); omega)).symm | (exfalso; fail))
    have Q166 : QX (eC K V 0) eNl dt dt161 := QX_no (by (have z_ := unhid h160_2; omega))
    have ql167 := hid (fun (z_ : dt161 35 2 = 0) => (Q166 z_).1)
    refine go_retq PM32 (k := 1) (r := none) (w1 := (SH, dt161)) rfl ?_
    exact ⟨dt161, rfl, hI162, hF164, ⟨rfl, ⟨by exact PX_e X165 (by omega), by first | exact True.intro | with_reducible assumption | exact unhid (by with_reducible assumption) | rfl | omega | trivial, by first | exact True.intro | with_reducible assumption | exact unhid (by with_reducible assumption) | rfl | omega | trivial, by first | exact True.intro | with_reducible assumption | exact unhid (by with_reducible assumption) | rfl | omega | trivial, by first | (intro z_; exfalso; (have z_ := unhid h160_2; omega)) | exact QX_e Q166, by first | exact True.intro | with_reducible assumption | exact unhid (by with_reducible assumption) | rfl | omega | trivial, by first | exact True.intro | with_reducible assumption | exact unhid (by with_reducible assumption) | rfl | fail | trivial, by first | exact True.intro | with_reducible assumption | exact unhid (by with_reducible assumption) | rfl | fail | trivial⟩⟩⟩
set_option maxHeartbeats 8000000 in
theorem lv_X1_condition_f (L : Nat) (xs : Nat → Int32) (sio : Option Nat) (d : Nat) (dt : Nat → Nat → Int) (hI : InvC dt) (K V S : Nat → Int) (t : Nat) (hz : KZ K t) (ht : t ≤ 500) (j : Nat) (IH_X1_single : ∀ (L : Nat) (xs : Nat → Int32) (sio : Option Nat) (d : Nat) (dt : Nat → Nat → Int) (hI : InvC dt) (K V S : Nat → Int) (t : Nat) (hz : KZ K t) (ht : t ≤ 500) (p1 : Int) (h_p1 : 0 ≤ p1 ∧ p1 ≤ 8) (h_p0 : TKc K V S t dt) (h_p1 : 0 ≤ dt 35 8 ∧ dt 35 8 ≤ (t : Int)) (h_p2 : ¬ dt 35 2 = 0 → dt 35 8 = (t : Int)) (h_p3 : p1 + ((j : Nat) : Int) = 8) (h_p4 : 2 * j ≤ d) (h_p5 : dt 35 2 = 0 → dt 35 12 ≤ dt 35 8), GO (am_XX L xs sio) (d + 3) 32 0 [some (.inr (.inr (some 35))), some (.inl p1), none, none] [] (SH, dt) (fun r w2 => ∃ dt2 : Nat → Nat → Int, w2 = (SH, dt2) ∧ InvC dt2 ∧ Fr [35, 42] dt dt2 ∧ ((r = none ∧ (SPX S t dt dt2 (gC K V j)) ∧ (0 ≤ dt2 35 8 ∧ dt2 35 8 ≤ (t : Int)) ∧ (¬ dt2 35 2 = 0 → dt2 35 8 = (t : Int)) ∧ (dt 35 8 ≤ dt2 35 8) ∧ (dt2 35 2 = 0 → CDX dt dt2 ((eC K V j) (dt 35 8).toNat)) ∧ (dt2 35 2 = 0 → dt2 35 12 + dt 35 8 ≤ dt2 35 8 + dt 35 12) ∧ (dt2 35 1 = dt 35 1) ∧ (dt2 35 7 = dt 35 7)))))  (p1 : Int) (h_p1 : 0 ≤ p1 ∧ p1 ≤ 8) (h_p0 : TKc K V S t dt) (h_p1 : 0 ≤ dt 35 8 ∧ dt 35 8 ≤ (t : Int)) (h_p2 : ¬ dt 35 2 = 0 → dt 35 8 = (t : Int)) (h_p3 : p1 + ((j : Nat) : Int) = 8) (h_p4 : 2 * j ≤ d) (h_p5 : dt 35 2 = 0 → dt 35 12 ≤ dt 35 8) : GO (am_XX L xs sio) (d + 4) 31 0 [some (.inr (.inr (some 35))), some (.inl p1), none, none] [] (SH, dt) (fun r w2 => ∃ dt2 : Nat → Nat → Int, w2 = (SH, dt2) ∧ InvC dt2 ∧ Fr [35, 42] dt dt2 ∧ ((r = none ∧ (SPX S t dt dt2 (gB_ K V j)) ∧ (0 ≤ dt2 35 8 ∧ dt2 35 8 ≤ (t : Int)) ∧ (¬ dt2 35 2 = 0 → dt2 35 8 = (t : Int)) ∧ (dt 35 8 ≤ dt2 35 8) ∧ (dt2 35 2 = 0 → CDX dt dt2 ((eB K V j) (dt 35 8).toNat)) ∧ (dt2 35 2 = 0 → dt2 35 12 + dt 35 8 ≤ dt2 35 8 + dt 35 12) ∧ (dt2 35 1 = dt 35 1) ∧ (dt2 35 7 = dt 35 7)))) := by
  replace h_p2 := hid h_p2
  replace h_p5 := hid h_p5
  have hF : Fr [35, 42] dt dt := Fr_refl
  have r1 : 0 ≤ dt 35 12 ∧ dt 35 12 ≤ 500 := InvC_get hI 35 12 rfl rfl
  have r2 : (-2147483648) ≤ dt 35 2 ∧ dt 35 2 ≤ 2147483647 := InvC_get hI 35 2 rfl rfl
  have h7 : dt 35 7 = (t : Int) + 1 := h_p0.1
  have hk0 := TKc_k h_p0 h_p1
  have hv0 := hid (TKc_v h_p0 h_p1)
  have hs0 := TKc_s h_p0 h_p1
  have lt0_ := KZ_lt (i := (dt 35 8).toNat) hz
  refine go_toq PM31 (k := 4) (pc' := 4) (L' := [some (.inr (.inr (some 35))), some (.inl p1), some (.inl 0), none]) (st' := [.inl p1, .inr (.inr (some 35))]) (w' := (SH, dt)) rfl ?_
  refine go_callq PM31 PM32 (Q' := _) rfl rfl rfl rfl (IH_X1_single L xs sio (d + 0) dt hI K V S t hz ht p1 (by first | exact h_p1 | exact bnd h_p1 (by decide) (by decide) | exact ⟨by omega, by omega⟩) (by first | with_reducible assumption | exact unhid (by with_reducible assumption) | exact TKc_fr h_p0 hF (by decide) (by decide) (by decide) (by fail) | fail) (by first | with_reducible assumption | exact unhid (by with_reducible assumption) | exact TKc_fr h_p0 hF (by decide) (by decide) (by decide) (by fail) | fail) (by first | with_reducible assumption | exact unhid (by with_reducible assumption) | exact TKc_fr h_p0 hF (by decide) (by decide) (by decide) (by fail) | fail) (by first | with_reducible assumption | exact unhid (by with_reducible assumption) | exact TKc_fr h_p0 hF (by decide) (by decide) (by decide) (by fail) | fail) (by first | with_reducible assumption | exact unhid (by with_reducible assumption) | exact TKc_fr h_p0 hF (by decide) (by decide) (by decide) (by omega) | omega) (by first | with_reducible assumption | exact unhid (by with_reducible assumption) | exact TKc_fr h_p0 hF (by decide) (by decide) (by decide) (by fail) | fail)) ?_
  rintro _ _ ⟨dt4, rfl, hI5, hF6, h3⟩
  refine ⟨rfl, ?_⟩
  have hF7 : Fr [35, 42] dt dt4 := Fr_tr hF hF6 (by decide)
  rcases h3 with ⟨rfl, h3⟩
  obtain ⟨h3_0, h3_1, h3_2, h3_3, h3_4, h3_5, h3_6, h3_7⟩ := h3
  have X8 : PX S t (gB_ K V j) (gL K (gC K V j) 600) dt dt4 := PX_st PX_0 h3_0 (fun hl => by first | exact rfl | (exfalso; fail))
  have Q9 : QX (eB K V j) (eL K (eC K V j) (gC K V j) 600 0) dt dt4 := QX_st QX_0 (fun z_ => by have y_ := SPX_ok h3_0 (by first | with_reducible assumption | exact unhid (by with_reducible assumption) | fail) z_; first | exact y_.1 | fail) (by omega) (fun z_ => h3_4 z_) (fun z_ => by have y_ := SPX_ok h3_0 (by first | with_reducible assumption | exact unhid (by with_reducible assumption) | fail) z_; (try rw [y_.2.2]); have hl := y_.2.1; first | done | (rfl))
  have ql10 := fun (z_ : dt4 35 2 = 0) => (SPX_ok h3_0 (by first | with_reducible assumption | exact unhid (by with_reducible assumption) | fail) z_).1
  replace ql10 := hid ql10
  have ql11 := hid (fun (z_ : dt4 35 2 = 0) => (Q9 z_).1)
  refine go_toq PM31 (k := 2) (pc' := 9) (L' := [some (.inr (.inr (some 35))), some (.inl p1), some (.inl 0), some (.inl 0)]) (st' := []) (w' := (SH, dt4)) rfl ?_
  have loop209 : ∀ (k_ : Nat) (l9_2 : Int) (l9_3 : Int) (dt192 : Nat → Nat → Int) (hI193 : InvC dt192) (hF194 : Fr [35, 42] dt dt192) (i195 : 0 ≤ l9_2 ∧ l9_2 ≤ 1) (i196 : 0 ≤ l9_3 ∧ l9_3 ≤ 501) (i197 : PX S t (gB_ K V j) (gL K (gC K V j) 600) dt dt192) (i198 : l9_3 ≤ dt192 35 8) (i199 : 0 ≤ dt192 35 8 ∧ dt192 35 8 ≤ (t : Int)) (i200 : ¬ dt192 35 2 = 0 → dt192 35 8 = (t : Int)) (i201 : dt192 35 7 = dt 35 7) (i202 : dt192 35 1 = dt 35 1) (i203 : dt 35 8 ≤ dt192 35 8) (i204 : QX (eB K V j) (eL K (eC K V j) (gC K V j) 600 l9_2) dt dt192) (i205 : dt192 35 2 = 0 → dt192 35 12 + dt 35 8 ≤ dt192 35 8 + dt 35 12) (i206 : dt192 35 2 = 0 → ¬ l9_2 = 0 → dt192 35 12 + 1 + dt 35 8 ≤ dt192 35 8 + dt 35 12) (i207 : dt192 35 1 = dt 35 1) (i208 : dt192 35 7 = dt 35 7), (502 - l9_3).toNat < k_ → GO (am_XX L xs sio) (d + 4) 31 9 [some (.inr (.inr (some 35))), some (.inl p1), some (.inl l9_2), some (.inl l9_3)] [] (SH, dt192) (fun r w2 => ∃ dt2 : Nat → Nat → Int, w2 = (SH, dt2) ∧ InvC dt2 ∧ Fr [35, 42] dt dt2 ∧ ((r = none ∧ (SPX S t dt dt2 (gB_ K V j)) ∧ (0 ≤ dt2 35 8 ∧ dt2 35 8 ≤ (t : Int)) ∧ (¬ dt2 35 2 = 0 → dt2 35 8 = (t : Int)) ∧ (dt 35 8 ≤ dt2 35 8) ∧ (dt2 35 2 = 0 → CDX dt dt2 ((eB K V j) (dt 35 8).toNat)) ∧ (dt2 35 2 = 0 → dt2 35 12 + dt 35 8 ≤ dt2 35 8 + dt 35 12) ∧ (dt2 35 1 = dt 35 1) ∧ (dt2 35 7 = dt 35 7)))) := by
    intro k_
    induction k_ with
    | zero => intro l9_2 l9_3 dt192 hI193 hF194 i195 i196 i197 i198 i199 i200 i201 i202 i203 i204 i205 i206 i207 i208 hm; exact absurd hm (Nat.not_lt_zero _)
    | succ k_ ih_loop209 =>
      intro l9_2 l9_3 dt192 hI193 hF194 i195 i196 i197 i198 i199 i200 i201 i202 i203 i204 i205 i206 i207 i208 hm
      replace i200 := hid i200
      replace i205 := hid i205
      replace i206 := hid i206
      have qX := i197
      have qQ := i204
      have qq_ := fun (z_ : dt192 35 2 = 0) => (qQ z_).1
      refine go_ifq PM31 (k := 2) (p1 := 103) (p2 := 16) (L' := [some (.inr (.inr (some 35))), some (.inl p1), some (.inl l9_2), some (.inl l9_3)]) (st' := []) (w' := (SH, dt192)) rfl (c_gt (a := l9_3) (b := 500) (by first | exact bnd i196 (by decide) (by decide) | exact ⟨by fail, by fail⟩) ⟨by decide, by decide⟩) (fun c210 => ?_) (fun c210 => ?_)
      · skip
        refine go_ifq PM31 (k := 1) (p1 := 113) (p2 := 107) (L' := [some (.inr (.inr (some 35))), some (.inl p1), some (.inl l9_2), some (.inl l9_3)]) (st' := []) (w' := (SH, dt192)) rfl (z_eq (a := l9_2) (by first | exact bnd i195 (by decide) (by decide) | exact ⟨by fail, by fail⟩)) (fun c211 => ?_) (fun c211 => ?_)
        · skip
          refine go_retq PM31 (k := 0) (r := none) (w1 := (SH, dt192)) rfl ?_
          exact ⟨dt192, rfl, hI193, hF194, ⟨rfl, ⟨by exact PX_e (PX_g qX (fun _ => by rw [gL_u (gC_M hz _) (by omega) (by omega), if_neg (by omega)]; rfl)) (by omega), by first | exact True.intro | with_reducible assumption | exact unhid (by with_reducible assumption) | rfl | fail | trivial, by first | exact True.intro | with_reducible assumption | exact unhid (by with_reducible assumption) | rfl | fail | trivial, by first | exact True.intro | with_reducible assumption | exact unhid (by with_reducible assumption) | rfl | fail | trivial, by first | (intro z_; exfalso; omega) | exact QX_e qQ | exact QX_e (QX_g qQ (fun _ => by rw [eL_u (gC_M hz _) (by fail), if_neg (fun z_ => by fail), if_neg (fun z_ => by fail), flb_0 (by fail)]; rfl)), by first | exact True.intro | with_reducible assumption | exact unhid (by with_reducible assumption) | rfl | fail | trivial, by first | exact True.intro | with_reducible assumption | exact unhid (by with_reducible assumption) | rfl | fail | trivial, by first | exact True.intro | with_reducible assumption | exact unhid (by with_reducible assumption) | rfl | fail | trivial⟩⟩⟩
        · skip
          replace c211 := hid c211
          refine go_toq PM31 (k := 2) (pc' := 110) (L' := [some (.inr (.inr (some 35))), some (.inl p1), some (.inl l9_2), some (.inl l9_3)]) (st' := [.inl (-10), .inr (.inr (some 35))]) (w' := (SH, dt192)) rfl ?_
          refine go_callq PM31 PM30 (Q' := _) rfl rfl rfl rfl (sp_X1_emit_f L xs sio (d + 3) dt192 hI193  (-10) ⟨by decide, by decide⟩ ) ?_
          rintro _ _ ⟨dt213, rfl, hI214, hF215, h212⟩
          refine ⟨rfl, ?_⟩
          have hF216 : Fr [35, 42] dt dt213 := Fr_tr hF194 hF215 (by decide)
          rcases h212 with ⟨rfl, h212⟩
          obtain ⟨h212_0, h212_1, h212_2, h212_3, h212_4, h212_5, h212_6⟩ := h212
          replace h212_0 := hid h212_0
          replace h212_1 := hid h212_1
          have X217 : PX S t (gB_ K V j) (gL K (gC K V j) 600) dt dt213 := PX_sm qX (by omega) (by omega) (by omega)
          have ek218 : (dt213 35 8).toNat = (dt192 35 8).toNat := by omega
          have kk219 : K (dt213 35 8).toNat = K (dt192 35 8).toNat := congrArg K ek218
          have kk220 : V (dt213 35 8).toNat = V (dt192 35 8).toNat := congrArg V ek218
          have Q221 : QX (eB K V j) eNl dt dt213 := QX_st qQ (fun z_ => by omega) (by omega) (fun z_ => h212_0 (by omega)) (fun z_ => by (try rw [show (dt213 35 8).toNat = (dt192 35 8).toNat by first | with_reducible assumption | exact unhid (by with_reducible assumption) | fail]); first | done | (rw [eL_u (gC_M hz _) (by omega), if_neg (fun z_ => by omega), if_neg (fun z_ => by omega), flb_1 (by omega)]; rfl))
          have ql222 := hid (fun (z_ : dt213 35 2 = 0) => (Q221 z_).1)
          refine go_retq PM31 (k := 0) (r := none) (w1 := (SH, dt213)) rfl ?_
          exact ⟨dt213, rfl, hI214, hF216, ⟨rfl, ⟨by exact PX_e (PX_g X217 (fun _ => by rw [gL_u (gC_M hz _) (by omega) (by omega), if_neg (by omega)]; rfl)) (by omega), by first | exact True.intro | with_reducible assumption | exact unhid (by with_reducible assumption) | rfl | omega | trivial, by first | exact True.intro | with_reducible assumption | exact unhid (by with_reducible assumption) | rfl | omega | trivial, by first | exact True.intro | with_reducible assumption | exact unhid (by with_reducible assumption) | rfl | omega | trivial, by first | (intro z_; exfalso; omega) | exact QX_e Q221 | exact QX_e (QX_g Q221 (fun _ => by rw [eL_u (gC_M hz _) (by fail), if_neg (fun z_ => by fail), if_neg (fun z_ => by fail), flb_0 (by fail)]; rfl)), by first | exact True.intro | with_reducible assumption | exact unhid (by with_reducible assumption) | rfl | omega | trivial, by first | exact True.intro | with_reducible assumption | exact unhid (by with_reducible assumption) | rfl | omega | trivial, by first | exact True.intro | with_reducible assumption | exact unhid (by with_reducible assumption) | rfl | omega | trivial⟩⟩⟩
      · skip
        refine go_toq PM31 (k := 1) (pc' := 17) (L' := [some (.inr (.inr (some 35))), some (.inl p1), some (.inl l9_2), some (.inl l9_3)]) (st' := [.inr (.inr (some 35))]) (w' := (SH, dt192)) rfl ?_
        refine go_callq PM31 PM20 (Q' := _) rfl rfl rfl rfl (sp_X1_token_f L xs sio (d + 3) dt192 hI193 K V S t hz ht  (by first | with_reducible assumption | exact unhid (by with_reducible assumption) | exact TKc_fr h_p0 hF194 (by decide) (by decide) (by decide) (by omega) | fail) (by first | with_reducible assumption | exact unhid (by with_reducible assumption) | exact TKc_fr h_p0 hF194 (by decide) (by decide) (by decide) (by fail) | fail) (by first | with_reducible assumption | exact unhid (by with_reducible assumption) | exact TKc_fr h_p0 hF194 (by decide) (by decide) (by decide) (by fail) | fail)) ?_
        rintro _ _ ⟨rfl, h223⟩
        refine ⟨rfl, ?_⟩
        rcases h223 with ⟨v_h223, rfl, h223r, h223⟩
        refine go_ifq PM31 (k := 1) (p1 := 36) (p2 := 26) (L' := [some (.inr (.inr (some 35))), some (.inl p1), some (.inl l9_2), some (.inl l9_3)]) (st' := []) (w' := (SH, dt192)) rfl (c_eq (a := v_h223) (b := 1004) (by first | exact bnd h223r (by decide) (by decide) | exact ⟨by fail, by fail⟩) ⟨by decide, by decide⟩) (fun c225 => ?_) (fun c225 => ?_)
        · skip
          refine go_toq PM31 (k := 1) (pc' := 37) (L' := [some (.inr (.inr (some 35))), some (.inl p1), some (.inl l9_2), some (.inl l9_3)]) (st' := [.inr (.inr (some 35))]) (w' := (SH, dt192)) rfl ?_
          refine go_callq PM31 PM20 (Q' := _) rfl rfl rfl rfl (sp_X1_token_f L xs sio (d + 3) dt192 hI193 K V S t hz ht  (by first | with_reducible assumption | exact unhid (by with_reducible assumption) | exact TKc_fr h_p0 hF194 (by decide) (by decide) (by decide) (by omega) | fail) (by first | with_reducible assumption | exact unhid (by with_reducible assumption) | exact TKc_fr h_p0 hF194 (by decide) (by decide) (by decide) (by fail) | fail) (by first | with_reducible assumption | exact unhid (by with_reducible assumption) | exact TKc_fr h_p0 hF194 (by decide) (by decide) (by decide) (by fail) | fail)) ?_
          rintro _ _ ⟨rfl, h226⟩
          refine ⟨rfl, ?_⟩
          rcases h226 with ⟨v_h226, rfl, h226r, h226⟩
          refine go_ifq PM31 (k := 1) (p1 := 70) (p2 := 46) (L' := [some (.inr (.inr (some 35))), some (.inl p1), some (.inl l9_2), some (.inl l9_3)]) (st' := []) (w' := (SH, dt192)) rfl (c_ne (a := v_h226) (b := 1004) (by first | exact bnd h226r (by decide) (by decide) | exact ⟨by fail, by fail⟩) ⟨by decide, by decide⟩) (fun c228 => ?_) (fun c228 => ?_)
          · skip
            replace c228 := hid c228
            refine go_ifq PM31 (k := 1) (p1 := 80) (p2 := 74) (L' := [some (.inr (.inr (some 35))), some (.inl p1), some (.inl l9_2), some (.inl l9_3)]) (st' := []) (w' := (SH, dt192)) rfl (z_eq (a := l9_2) (by first | exact bnd i195 (by decide) (by decide) | exact ⟨by fail, by fail⟩)) (fun c229 => ?_) (fun c229 => ?_)
            · skip
              refine go_toq PM31 (k := 7) (pc' := 89) (L' := [some (.inr (.inr (some 35))), some (.inl p1), some (.inl 1), some (.inl l9_3)]) (st' := [.inl ((dt192 35 8) + 1), .inr (.inr (some 35))]) (w' := (SH, dt192)) rfl ?_
              have hI230 : InvC (u2 dt192 35 8 ((dt192 35 8) + 1)) := InvC_u2 hI193 (lo := -2147483648) (hi := 2147483647) rfl rfl rfl (by omega) (by omega)
              have hF231 : Fr [35, 42] dt (u2 dt192 35 8 ((dt192 35 8) + 1)) := Fr_u2 hF194 (by decide)
              have w232 : (u2 dt192 35 8 ((dt192 35 8) + 1)) 35 1 = dt192 35 1 := rfl
              have w233 : (u2 dt192 35 8 ((dt192 35 8) + 1)) 35 2 = dt192 35 2 := rfl
              have w234 : (u2 dt192 35 8 ((dt192 35 8) + 1)) 35 3 = dt192 35 3 := rfl
              have w235 : (u2 dt192 35 8 ((dt192 35 8) + 1)) 35 7 = dt192 35 7 := rfl
              have w236 : (u2 dt192 35 8 ((dt192 35 8) + 1)) 35 8 = (dt192 35 8) + 1 := rfl
              have w237 : (u2 dt192 35 8 ((dt192 35 8) + 1)) 35 12 = dt192 35 12 := rfl
              have lv240 := KLIVE hz (D := dt192) (by omega) (by omega) (by (have z_ := unhid c228; omega))
              have X239 : PX S t (gB_ K V j) (fun i => gB (gC K V j i) (gL K (gC K V j) 600)) dt (u2 dt192 35 8 ((dt192 35 8) + 1)) := PX_st qX (SPX_inc hz (by omega) (by omega) (by omega) (by omega) (by omega)) (fun hl => by first | (show (gL K (gC K V j) 600) (dt192 35 8).toNat = (fun i => gB (gC K V j i) (gL K (gC K V j) 600)) ((dt192 35 8).toNat + 1); rw [gL_u (gC_M hz _) (by omega) (by omega), if_pos (by omega)]) | (exfalso; fail))
              refine go_smpq PM31 (L' := [some (.inr (.inr (some 35))), some (.inl p1), some (.inl 1), some (.inl l9_3)]) (st' := []) (w' := (SH, (u2 dt192 35 8 ((dt192 35 8) + 1)))) rfl rfl (s_pf rfl rfl rfl rfl ⟨by omega, by omega⟩) ?_
              refine go_toq PM31 (k := 2) (pc' := 94) (L' := [some (.inr (.inr (some 35))), some (.inl p1), some (.inl 1), some (.inl l9_3)]) (st' := [.inl p1, .inr (.inr (some 35))]) (w' := (SH, (u2 dt192 35 8 ((dt192 35 8) + 1)))) rfl ?_
              refine go_callq PM31 PM32 (Q' := _) rfl rfl rfl rfl (IH_X1_single L xs sio (d + 0) (u2 dt192 35 8 ((dt192 35 8) + 1)) hI230 K V S t hz ht p1 (by first | exact h_p1 | exact bnd h_p1 (by decide) (by decide) | exact ⟨by omega, by omega⟩) (by first | with_reducible assumption | exact unhid (by with_reducible assumption) | exact TKc_fr h_p0 hF231 (by decide) (by decide) (by decide) (by omega) | fail) (by first | with_reducible assumption | exact unhid (by with_reducible assumption) | exact TKc_fr h_p0 hF231 (by decide) (by decide) (by decide) (by omega) | omega) (by first | with_reducible assumption | exact unhid (by with_reducible assumption) | exact TKc_fr h_p0 hF231 (by decide) (by decide) (by decide) (by omega) | omega) (by first | with_reducible assumption | exact unhid (by with_reducible assumption) | exact TKc_fr h_p0 hF231 (by decide) (by decide) (by decide) (by fail) | fail) (by first | with_reducible assumption | exact unhid (by with_reducible assumption) | exact TKc_fr h_p0 hF231 (by decide) (by decide) (by decide) (by omega) | omega) (by first | with_reducible assumption | exact unhid (by with_reducible assumption) | exact TKc_fr h_p0 hF231 (by decide) (by decide) (by decide) (by omega) | (have z_ := unhid c228; omega))) ?_
              rintro _ _ ⟨dt242, rfl, hI243, hF244, h241⟩
              refine ⟨rfl, ?_⟩
              have hF245 : Fr [35, 42] dt dt242 := Fr_tr hF231 hF244 (by decide)
              rcases h241 with ⟨rfl, h241⟩
              obtain ⟨h241_0, h241_1, h241_2, h241_3, h241_4, h241_5, h241_6, h241_7⟩ := h241
              have X246 : PX S t (gB_ K V j) (gL K (gC K V j) 600) dt dt242 := PX_st X239 h241_0 (fun hl => by first | exact rfl | (exfalso; fail))
              have Q247 : QX (eB K V j) (eL K (eC K V j) (gC K V j) 600 1) dt dt242 := QX_st qQ (fun z_ => by have y_ := SPX_ok h241_0 (by first | with_reducible assumption | exact unhid (by with_reducible assumption) | omega) z_; first | exact y_.1 | fail) (by omega) (fun z_ => CDX_l (D' := (u2 dt192 35 8 ((dt192 35 8) + 1))) rfl (fun j => u2_ne (by omega)) ((fun z_ => h241_4 z_) z_)) (fun z_ => by have y_ := SPX_ok h241_0 (by first | with_reducible assumption | exact unhid (by with_reducible assumption) | omega) z_; (try rw [y_.2.2]); have hl := y_.2.1; rw [show ((u2 dt192 35 8 ((dt192 35 8) + 1)) 35 8).toNat = (dt192 35 8).toNat + 1 by first | with_reducible assumption | exact unhid (by with_reducible assumption) | omega] at hl ⊢; first | done | (rw [eL_or (gC_M hz _) (by omega) (by (have z_ := unhid c228; omega)), flb_0 (by omega), List.nil_append]; unfold eLr; rw [if_pos hl]; first | done | rfl))
              have ql248 := fun (z_ : dt242 35 2 = 0) => (SPX_ok h241_0 (by first | with_reducible assumption | exact unhid (by with_reducible assumption) | omega) z_).1
              replace ql248 := hid ql248
              have ql249 := hid (fun (z_ : dt242 35 2 = 0) => (Q247 z_).1)
              refine go_toq PM31 (k := 2) (pc' := 9) (L' := [some (.inr (.inr (some 35))), some (.inl p1), some (.inl 1), some (.inl (l9_3 + 1))]) (st' := []) (w' := (SH, dt242)) rfl ?_
              exact GO.le (ih_loop209 1 (l9_3 + 1) dt242 hI243 hF245 (by first | with_reducible assumption | exact unhid (by with_reducible assumption) | omega | exact X246 | exact Q247) (by first | with_reducible assumption | exact unhid (by with_reducible assumption) | omega | exact X246 | exact Q247) (by exact X246) (by first | with_reducible assumption | exact unhid (by with_reducible assumption) | omega | exact X246 | exact Q247) (by first | with_reducible assumption | exact unhid (by with_reducible assumption) | fail | exact X246 | exact Q247) (by first | with_reducible assumption | exact unhid (by with_reducible assumption) | fail | exact X246 | exact Q247) (by first | with_reducible assumption | exact unhid (by with_reducible assumption) | omega | exact X246 | exact Q247) (by first | with_reducible assumption | exact unhid (by with_reducible assumption) | omega | exact X246 | exact Q247) (by first | with_reducible assumption | exact unhid (by with_reducible assumption) | omega | exact X246 | exact Q247) (by exact Q247) (by first | with_reducible assumption | exact unhid (by with_reducible assumption) | (have z_ := unhid i205; omega) | exact X246 | exact Q247) (by first | with_reducible assumption | exact unhid (by with_reducible assumption) | (have z_ := unhid i205; omega) | exact X246 | exact Q247) (by first | with_reducible assumption | exact unhid (by with_reducible assumption) | omega | exact X246 | exact Q247) (by first | with_reducible assumption | exact unhid (by with_reducible assumption) | omega | exact X246 | exact Q247) (by omega)) ⟨.inl rfl, .inl rfl, .inl rfl, .inl rfl, trivial⟩
            · skip
              replace c229 := hid c229
              refine go_toq PM31 (k := 2) (pc' := 77) (L' := [some (.inr (.inr (some 35))), some (.inl p1), some (.inl l9_2), some (.inl l9_3)]) (st' := [.inl (-10), .inr (.inr (some 35))]) (w' := (SH, dt192)) rfl ?_
              refine go_callq PM31 PM30 (Q' := _) rfl rfl rfl rfl (sp_X1_emit_f L xs sio (d + 3) dt192 hI193  (-10) ⟨by decide, by decide⟩ ) ?_
              rintro _ _ ⟨dt251, rfl, hI252, hF253, h250⟩
              refine ⟨rfl, ?_⟩
              have hF254 : Fr [35, 42] dt dt251 := Fr_tr hF194 hF253 (by decide)
              rcases h250 with ⟨rfl, h250⟩
              obtain ⟨h250_0, h250_1, h250_2, h250_3, h250_4, h250_5, h250_6⟩ := h250
              replace h250_0 := hid h250_0
              replace h250_1 := hid h250_1
              have X255 : PX S t (gB_ K V j) (gL K (gC K V j) 600) dt dt251 := PX_sm qX (by omega) (by omega) (by omega)
              have ek256 : (dt251 35 8).toNat = (dt192 35 8).toNat := by omega
              have kk257 : K (dt251 35 8).toNat = K (dt192 35 8).toNat := congrArg K ek256
              have kk258 : V (dt251 35 8).toNat = V (dt192 35 8).toNat := congrArg V ek256
              have Q259 : QX (eB K V j) (eLr K (eC K V j) (gC K V j)) dt dt251 := QX_st qQ (fun z_ => by omega) (by omega) (fun z_ => h250_0 (by (have z_ := unhid c228; omega))) (fun z_ => by (try rw [show (dt251 35 8).toNat = (dt192 35 8).toNat by first | with_reducible assumption | exact unhid (by with_reducible assumption) | fail]); first | done | (exact (eL_or (gC_M hz _) (by omega) (by (have z_ := unhid c228; omega))).trans (by rw [flb_1 (by (have z_ := unhid c229; omega))])))
              have ql260 := hid (fun (z_ : dt251 35 2 = 0) => (Q259 z_).1)
              refine go_toq PM31 (k := 7) (pc' := 89) (L' := [some (.inr (.inr (some 35))), some (.inl p1), some (.inl 1), some (.inl l9_3)]) (st' := [.inl ((dt251 35 8) + 1), .inr (.inr (some 35))]) (w' := (SH, dt251)) rfl ?_
              have hI261 : InvC (u2 dt251 35 8 ((dt251 35 8) + 1)) := InvC_u2 hI252 (lo := -2147483648) (hi := 2147483647) rfl rfl rfl (by omega) (by omega)
              have hF262 : Fr [35, 42] dt (u2 dt251 35 8 ((dt251 35 8) + 1)) := Fr_u2 hF254 (by decide)
              have w263 : (u2 dt251 35 8 ((dt251 35 8) + 1)) 35 1 = dt251 35 1 := rfl
              have w264 : (u2 dt251 35 8 ((dt251 35 8) + 1)) 35 2 = dt251 35 2 := rfl
              have w265 : (u2 dt251 35 8 ((dt251 35 8) + 1)) 35 3 = dt251 35 3 := rfl
              have w266 : (u2 dt251 35 8 ((dt251 35 8) + 1)) 35 7 = dt251 35 7 := rfl
              have w267 : (u2 dt251 35 8 ((dt251 35 8) + 1)) 35 8 = (dt251 35 8) + 1 := rfl
              have w268 : (u2 dt251 35 8 ((dt251 35 8) + 1)) 35 12 = dt251 35 12 := rfl
              have lv271 := KLIVE hz (D := dt251) (by omega) (by omega) (by (have z_ := unhid i200; omega))
              have X270 : PX S t (gB_ K V j) (fun i => gB (gC K V j i) (gL K (gC K V j) 600)) dt (u2 dt251 35 8 ((dt251 35 8) + 1)) := PX_st X255 (SPX_inc hz (by omega) (by omega) (by omega) (by omega) (by omega)) (fun hl => by first | (show (gL K (gC K V j) 600) (dt251 35 8).toNat = (fun i => gB (gC K V j i) (gL K (gC K V j) 600)) ((dt251 35 8).toNat + 1); rw [gL_u (gC_M hz _) (by omega) (by omega), if_pos (by omega)]) | (exfalso; fail))
              refine go_smpq PM31 (L' := [some (.inr (.inr (some 35))), some (.inl p1), some (.inl 1), some (.inl l9_3)]) (st' := []) (w' := (SH, (u2 dt251 35 8 ((dt251 35 8) + 1)))) rfl rfl (s_pf rfl rfl rfl rfl ⟨by omega, by omega⟩) ?_
              refine go_toq PM31 (k := 2) (pc' := 94) (L' := [some (.inr (.inr (some 35))), some (.inl p1), some (.inl 1), some (.inl l9_3)]) (st' := [.inl p1, .inr (.inr (some 35))]) (w' := (SH, (u2 dt251 35 8 ((dt251 35 8) + 1)))) rfl ?_
              refine go_callq PM31 PM32 (Q' := _) rfl rfl rfl rfl (IH_X1_single L xs sio (d + 0) (u2 dt251 35 8 ((dt251 35 8) + 1)) hI261 K V S t hz ht p1 (by first | exact h_p1 | exact bnd h_p1 (by decide) (by decide) | exact ⟨by omega, by omega⟩) (by first | with_reducible assumption | exact unhid (by with_reducible assumption) | exact TKc_fr h_p0 hF262 (by decide) (by decide) (by decide) (by omega) | fail) (by first | with_reducible assumption | exact unhid (by with_reducible assumption) | exact TKc_fr h_p0 hF262 (by decide) (by decide) (by decide) (by omega) | omega) (by first | with_reducible assumption | exact unhid (by with_reducible assumption) | exact TKc_fr h_p0 hF262 (by decide) (by decide) (by decide) (by omega) | omega) (by first | with_reducible assumption | exact unhid (by with_reducible assumption) | exact TKc_fr h_p0 hF262 (by decide) (by decide) (by decide) (by fail) | fail) (by first | with_reducible assumption | exact unhid (by with_reducible assumption) | exact TKc_fr h_p0 hF262 (by decide) (by decide) (by decide) (by omega) | omega) (by first | with_reducible assumption | exact unhid (by with_reducible assumption) | exact TKc_fr h_p0 hF262 (by decide) (by decide) (by decide) (by omega) | (have z_ := unhid c228; omega))) ?_
              rintro _ _ ⟨dt273, rfl, hI274, hF275, h272⟩
              refine ⟨rfl, ?_⟩
              have hF276 : Fr [35, 42] dt dt273 := Fr_tr hF262 hF275 (by decide)
              rcases h272 with ⟨rfl, h272⟩
              obtain ⟨h272_0, h272_1, h272_2, h272_3, h272_4, h272_5, h272_6, h272_7⟩ := h272
              have X277 : PX S t (gB_ K V j) (gL K (gC K V j) 600) dt dt273 := PX_st X270 h272_0 (fun hl => by first | exact rfl | (exfalso; fail))
              have Q278 : QX (eB K V j) (eL K (eC K V j) (gC K V j) 600 1) dt dt273 := QX_st Q259 (fun z_ => by have y_ := SPX_ok h272_0 (by first | with_reducible assumption | exact unhid (by with_reducible assumption) | omega) z_; first | exact y_.1 | fail) (by omega) (fun z_ => CDX_l (D' := (u2 dt251 35 8 ((dt251 35 8) + 1))) rfl (fun j => u2_ne (by omega)) ((fun z_ => h272_4 z_) z_)) (fun z_ => by have y_ := SPX_ok h272_0 (by first | with_reducible assumption | exact unhid (by with_reducible assumption) | omega) z_; (try rw [y_.2.2]); have hl := y_.2.1; rw [show ((u2 dt251 35 8 ((dt251 35 8) + 1)) 35 8).toNat = (dt251 35 8).toNat + 1 by first | with_reducible assumption | exact unhid (by with_reducible assumption) | omega] at hl ⊢; first | done | (unfold eLr; rw [if_pos hl]; first | done | rfl))
              have ql279 := fun (z_ : dt273 35 2 = 0) => (SPX_ok h272_0 (by first | with_reducible assumption | exact unhid (by with_reducible assumption) | omega) z_).1
              replace ql279 := hid ql279
              have ql280 := hid (fun (z_ : dt273 35 2 = 0) => (Q278 z_).1)
              refine go_toq PM31 (k := 2) (pc' := 9) (L' := [some (.inr (.inr (some 35))), some (.inl p1), some (.inl 1), some (.inl (l9_3 + 1))]) (st' := []) (w' := (SH, dt273)) rfl ?_
              exact GO.le (ih_loop209 1 (l9_3 + 1) dt273 hI274 hF276 (by first | with_reducible assumption | exact unhid (by with_reducible assumption) | omega | exact X277 | exact Q278) (by first | with_reducible assumption | exact unhid (by with_reducible assumption) | omega | exact X277 | exact Q278) (by exact X277) (by first | with_reducible assumption | exact unhid (by with_reducible assumption) | omega | exact X277 | exact Q278) (by first | with_reducible assumption | exact unhid (by with_reducible assumption) | fail | exact X277 | exact Q278) (by first | with_reducible assumption | exact unhid (by with_reducible assumption) | fail | exact X277 | exact Q278) (by first | with_reducible assumption | exact unhid (by with_reducible assumption) | omega | exact X277 | exact Q278) (by first | with_reducible assumption | exact unhid (by with_reducible assumption) | omega | exact X277 | exact Q278) (by first | with_reducible assumption | exact unhid (by with_reducible assumption) | omega | exact X277 | exact Q278) (by exact Q278) (by first | with_reducible assumption | exact unhid (by with_reducible assumption) | (have z_ := unhid c228; omega) | exact X277 | exact Q278) (by first | with_reducible assumption | exact unhid (by with_reducible assumption) | (have z_ := unhid c228; omega) | exact X277 | exact Q278) (by first | with_reducible assumption | exact unhid (by with_reducible assumption) | omega | exact X277 | exact Q278) (by first | with_reducible assumption | exact unhid (by with_reducible assumption) | omega | exact X277 | exact Q278) (by omega)) ⟨.inl rfl, .inl rfl, .inl rfl, .inl rfl, trivial⟩
          · skip
            refine go_toq PM31 (k := 5) (pc' := 53) (L' := [some (.inr (.inr (some 35))), some (.inl p1), some (.inl l9_2), some (.inl l9_3)]) (st' := [.inl ((dt192 35 8) + 1), .inr (.inr (some 35))]) (w' := (SH, dt192)) rfl ?_
            have hI281 : InvC (u2 dt192 35 8 ((dt192 35 8) + 1)) := InvC_u2 hI193 (lo := -2147483648) (hi := 2147483647) rfl rfl rfl (by omega) (by omega)
            have hF282 : Fr [35, 42] dt (u2 dt192 35 8 ((dt192 35 8) + 1)) := Fr_u2 hF194 (by decide)
            have w283 : (u2 dt192 35 8 ((dt192 35 8) + 1)) 35 1 = dt192 35 1 := rfl
            have w284 : (u2 dt192 35 8 ((dt192 35 8) + 1)) 35 2 = dt192 35 2 := rfl
            have w285 : (u2 dt192 35 8 ((dt192 35 8) + 1)) 35 3 = dt192 35 3 := rfl
            have w286 : (u2 dt192 35 8 ((dt192 35 8) + 1)) 35 7 = dt192 35 7 := rfl
            have w287 : (u2 dt192 35 8 ((dt192 35 8) + 1)) 35 8 = (dt192 35 8) + 1 := rfl
            have w288 : (u2 dt192 35 8 ((dt192 35 8) + 1)) 35 12 = dt192 35 12 := rfl
            have lv291 := KLIVE hz (D := dt192) (by omega) (by omega) (by (have z_ := unhid i200; omega))
            have X290 : PX S t (gB_ K V j) (fun i => gB (gC K V j i) (gL K (gC K V j) 600)) dt (u2 dt192 35 8 ((dt192 35 8) + 1)) := PX_st qX (SPX_inc hz (by omega) (by omega) (by omega) (by omega) (by omega)) (fun hl => by first | (show (gL K (gC K V j) 600) (dt192 35 8).toNat = (fun i => gB (gC K V j i) (gL K (gC K V j) 600)) ((dt192 35 8).toNat + 1); rw [gL_u (gC_M hz _) (by omega) (by omega), if_pos (by omega)]) | (exfalso; fail))
            refine go_smpq PM31 (L' := [some (.inr (.inr (some 35))), some (.inl p1), some (.inl l9_2), some (.inl l9_3)]) (st' := []) (w' := (SH, (u2 dt192 35 8 ((dt192 35 8) + 1)))) rfl rfl (s_pf rfl rfl rfl rfl ⟨by omega, by omega⟩) ?_
            refine go_toq PM31 (k := 2) (pc' := 58) (L' := [some (.inr (.inr (some 35))), some (.inl p1), some (.inl l9_2), some (.inl l9_3)]) (st' := [.inl p1, .inr (.inr (some 35))]) (w' := (SH, (u2 dt192 35 8 ((dt192 35 8) + 1)))) rfl ?_
            refine go_callq PM31 PM32 (Q' := _) rfl rfl rfl rfl (IH_X1_single L xs sio (d + 0) (u2 dt192 35 8 ((dt192 35 8) + 1)) hI281 K V S t hz ht p1 (by first | exact h_p1 | exact bnd h_p1 (by decide) (by decide) | exact ⟨by omega, by omega⟩) (by first | with_reducible assumption | exact unhid (by with_reducible assumption) | exact TKc_fr h_p0 hF282 (by decide) (by decide) (by decide) (by omega) | fail) (by first | with_reducible assumption | exact unhid (by with_reducible assumption) | exact TKc_fr h_p0 hF282 (by decide) (by decide) (by decide) (by omega) | omega) (by first | with_reducible assumption | exact unhid (by with_reducible assumption) | exact TKc_fr h_p0 hF282 (by decide) (by decide) (by decide) (by omega) | omega) (by first | with_reducible assumption | exact unhid (by with_reducible assumption) | exact TKc_fr h_p0 hF282 (by decide) (by decide) (by decide) (by fail) | fail) (by first | with_reducible assumption | exact unhid (by with_reducible assumption) | exact TKc_fr h_p0 hF282 (by decide) (by decide) (by decide) (by omega) | omega) (by first | with_reducible assumption | exact unhid (by with_reducible assumption) | exact TKc_fr h_p0 hF282 (by decide) (by decide) (by decide) (by omega) | (have z_ := unhid h_p5; have z2_ := unhid i205; omega))) ?_
            rintro _ _ ⟨dt293, rfl, hI294, hF295, h292⟩
            refine ⟨rfl, ?_⟩
            have hF296 : Fr [35, 42] dt dt293 := Fr_tr hF282 hF295 (by decide)
            rcases h292 with ⟨rfl, h292⟩
            obtain ⟨h292_0, h292_1, h292_2, h292_3, h292_4, h292_5, h292_6, h292_7⟩ := h292
            have X297 : PX S t (gB_ K V j) (gL K (gC K V j) 600) dt dt293 := PX_st X290 h292_0 (fun hl => by first | exact rfl | (exfalso; fail))
            have Q298 : QX (eB K V j) (fun i => [-9] ++ (eL K (eC K V j) (gC K V j) 600 l9_2) i) dt dt293 := QX_st qQ (fun z_ => by have y_ := SPX_ok h292_0 (by first | with_reducible assumption | exact unhid (by with_reducible assumption) | omega) z_; first | exact y_.1 | fail) (by omega) (fun z_ => CDX_l (D' := (u2 dt192 35 8 ((dt192 35 8) + 1))) rfl (fun j => u2_ne (by omega)) ((fun z_ => h292_4 z_) z_)) (fun z_ => by have y_ := SPX_ok h292_0 (by first | with_reducible assumption | exact unhid (by with_reducible assumption) | omega) z_; (try rw [y_.2.2]); have hl := y_.2.1; rw [show ((u2 dt192 35 8 ((dt192 35 8) + 1)) 35 8).toNat = (dt192 35 8).toNat + 1 by first | with_reducible assumption | exact unhid (by with_reducible assumption) | omega] at hl ⊢; first | done | (rw [eL_u (gC_M hz _) (by omega), if_pos ⟨by omega, hl⟩]))
            have ql299 := fun (z_ : dt293 35 2 = 0) => (SPX_ok h292_0 (by first | with_reducible assumption | exact unhid (by with_reducible assumption) | omega) z_).1
            replace ql299 := hid ql299
            have ql300 := hid (fun (z_ : dt293 35 2 = 0) => (Q298 z_).1)
            refine go_toq PM31 (k := 2) (pc' := 64) (L' := [some (.inr (.inr (some 35))), some (.inl p1), some (.inl l9_2), some (.inl l9_3)]) (st' := [.inl (-9), .inr (.inr (some 35))]) (w' := (SH, dt293)) rfl ?_
            refine go_callq PM31 PM30 (Q' := _) rfl rfl rfl rfl (sp_X1_emit_f L xs sio (d + 3) dt293 hI294  (-9) ⟨by decide, by decide⟩ ) ?_
            rintro _ _ ⟨dt302, rfl, hI303, hF304, h301⟩
            refine ⟨rfl, ?_⟩
            have hF305 : Fr [35, 42] dt dt302 := Fr_tr hF296 hF304 (by decide)
            rcases h301 with ⟨rfl, h301⟩
            obtain ⟨h301_0, h301_1, h301_2, h301_3, h301_4, h301_5, h301_6⟩ := h301
            replace h301_0 := hid h301_0
            replace h301_1 := hid h301_1
            have X306 : PX S t (gB_ K V j) (gL K (gC K V j) 600) dt dt302 := PX_sm X297 (by omega) (by omega) (by omega)
            have ek307 : (dt302 35 8).toNat = (dt293 35 8).toNat := by omega
            have kk308 : K (dt302 35 8).toNat = K (dt293 35 8).toNat := congrArg K ek307
            have kk309 : V (dt302 35 8).toNat = V (dt293 35 8).toNat := congrArg V ek307
            have Q310 : QX (eB K V j) (eL K (eC K V j) (gC K V j) 600 l9_2) dt dt302 := QX_st Q298 (fun z_ => by omega) (by omega) (fun z_ => h301_0 (by (have z_ := unhid h_p5; have z2_ := unhid i205; omega))) (fun z_ => by (try rw [show (dt302 35 8).toNat = (dt293 35 8).toNat by first | with_reducible assumption | exact unhid (by with_reducible assumption) | fail]); first | done | (rfl))
            have ql311 := hid (fun (z_ : dt302 35 2 = 0) => (Q310 z_).1)
            refine go_toq PM31 (k := 3) (pc' := 9) (L' := [some (.inr (.inr (some 35))), some (.inl p1), some (.inl l9_2), some (.inl (l9_3 + 1))]) (st' := []) (w' := (SH, dt302)) rfl ?_
            have u68_ := hid (And.intro (unhid h_p2) (And.intro (unhid h_p5) (And.intro (unhid hv0) (And.intro (unhid i200) (And.intro (unhid i205) (And.intro (unhid i206) (And.intro (unhid ql299) (And.intro (unhid ql300) (And.intro (unhid h301_1) (unhid ql311))))))))))
            exact GO.le (ih_loop209 l9_2 (l9_3 + 1) dt302 hI303 hF305 (by first | with_reducible assumption | exact unhid (by with_reducible assumption) | fail | exact X306 | exact Q310) (by first | with_reducible assumption | exact unhid (by with_reducible assumption) | omega | exact X306 | exact Q310) (by exact X306) (by first | with_reducible assumption | exact unhid (by with_reducible assumption) | omega | exact X306 | exact Q310) (by first | with_reducible assumption | exact unhid (by with_reducible assumption) | omega | exact X306 | exact Q310) (by first | with_reducible assumption | exact unhid (by with_reducible assumption) | omega | exact X306 | exact Q310) (by first | with_reducible assumption | exact unhid (by with_reducible assumption) | omega | exact X306 | exact Q310) (by first | with_reducible assumption | exact unhid (by with_reducible assumption) | omega | exact X306 | exact Q310) (by first | with_reducible assumption | exact unhid (by with_reducible assumption) | omega | exact X306 | exact Q310) (by exact Q310) (by first | with_reducible assumption | exact unhid (by with_reducible assumption) | (have z_ := unhid u68_; omega) | exact X306 | exact Q310) (by first | with_reducible assumption | exact unhid (by with_reducible assumption) | (have z_ := unhid u68_; omega) | exact X306 | exact Q310) (by first | with_reducible assumption | exact unhid (by with_reducible assumption) | omega | exact X306 | exact Q310) (by first | with_reducible assumption | exact unhid (by with_reducible assumption) | omega | exact X306 | exact Q310) (by omega)) ⟨.inl rfl, .inl rfl, .inl rfl, .inl rfl, trivial⟩
        · skip
          replace c225 := hid c225
          refine go_toq PM31 (k := 1) (pc' := 27) (L' := [some (.inr (.inr (some 35))), some (.inl p1), some (.inl l9_2), some (.inl l9_3)]) (st' := [.inr (.inr (some 35))]) (w' := (SH, dt192)) rfl ?_
          refine go_callq PM31 PM20 (Q' := _) rfl rfl rfl rfl (sp_X1_token_f L xs sio (d + 3) dt192 hI193 K V S t hz ht  (by first | with_reducible assumption | exact unhid (by with_reducible assumption) | exact TKc_fr h_p0 hF194 (by decide) (by decide) (by decide) (by omega) | fail) (by first | with_reducible assumption | exact unhid (by with_reducible assumption) | exact TKc_fr h_p0 hF194 (by decide) (by decide) (by decide) (by fail) | fail) (by first | with_reducible assumption | exact unhid (by with_reducible assumption) | exact TKc_fr h_p0 hF194 (by decide) (by decide) (by decide) (by fail) | fail)) ?_
          rintro _ _ ⟨rfl, h312⟩
          refine ⟨rfl, ?_⟩
          rcases h312 with ⟨v_h312, rfl, h312r, h312⟩
          refine go_ifq PM31 (k := 1) (p1 := 103) (p2 := 36) (L' := [some (.inr (.inr (some 35))), some (.inl p1), some (.inl l9_2), some (.inl l9_3)]) (st' := []) (w' := (SH, dt192)) rfl (c_ne (a := v_h312) (b := 1003) (by first | exact bnd h312r (by decide) (by decide) | exact ⟨by fail, by fail⟩) ⟨by decide, by decide⟩) (fun c314 => ?_) (fun c314 => ?_)
          · skip
            replace c314 := hid c314
            refine go_ifq PM31 (k := 1) (p1 := 113) (p2 := 107) (L' := [some (.inr (.inr (some 35))), some (.inl p1), some (.inl l9_2), some (.inl l9_3)]) (st' := []) (w' := (SH, dt192)) rfl (z_eq (a := l9_2) (by first | exact bnd i195 (by decide) (by decide) | exact ⟨by fail, by fail⟩)) (fun c315 => ?_) (fun c315 => ?_)
            · skip
              refine go_retq PM31 (k := 0) (r := none) (w1 := (SH, dt192)) rfl ?_
              exact ⟨dt192, rfl, hI193, hF194, ⟨rfl, ⟨by exact PX_e (PX_g qX (fun _ => by rw [gL_u (gC_M hz _) (by omega) (by omega), if_neg (by (have z_ := unhid c225; have z2_ := unhid c314; omega))]; rfl)) (by omega), by first | exact True.intro | with_reducible assumption | exact unhid (by with_reducible assumption) | rfl | fail | trivial, by first | exact True.intro | with_reducible assumption | exact unhid (by with_reducible assumption) | rfl | fail | trivial, by first | exact True.intro | with_reducible assumption | exact unhid (by with_reducible assumption) | rfl | fail | trivial, by first | (intro z_; exfalso; fail) | exact QX_e qQ | exact QX_e (QX_g qQ (fun _ => by rw [eL_u (gC_M hz _) (by omega), if_neg (fun z_ => by (have z_ := unhid c225; omega)), if_neg (fun z_ => by (have z_ := unhid c314; omega)), flb_0 (by omega)]; rfl)), by first | exact True.intro | with_reducible assumption | exact unhid (by with_reducible assumption) | rfl | fail | trivial, by first | exact True.intro | with_reducible assumption | exact unhid (by with_reducible assumption) | rfl | fail | trivial, by first | exact True.intro | with_reducible assumption | exact unhid (by with_reducible assumption) | rfl | fail | trivial⟩⟩⟩
            · skip
              replace c315 := hid c315
              refine go_toq PM31 (k := 2) (pc' := 110) (L' := [some (.inr (.inr (some 35))), some (.inl p1), some (.inl l9_2), some (.inl l9_3)]) (st' := [.inl (-10), .inr (.inr (some 35))]) (w' := (SH, dt192)) rfl ?_
              refine go_callq PM31 PM30 (Q' := _) rfl rfl rfl rfl (sp_X1_emit_f L xs sio (d + 3) dt192 hI193  (-10) ⟨by decide, by decide⟩ ) ?_
              rintro _ _ ⟨dt317, rfl, hI318, hF319, h316⟩
              refine ⟨rfl, ?_⟩
              have hF320 : Fr [35, 42] dt dt317 := Fr_tr hF194 hF319 (by decide)
              rcases h316 with ⟨rfl, h316⟩
              obtain ⟨h316_0, h316_1, h316_2, h316_3, h316_4, h316_5, h316_6⟩ := h316
              replace h316_0 := hid h316_0
              replace h316_1 := hid h316_1
              have u72_ := hid (And.intro (unhid h_p2) (And.intro (unhid h_p5) (And.intro (unhid hv0) (And.intro (unhid i200) (And.intro (unhid i205) (And.intro (unhid i206) (And.intro (unhid c225) (And.intro (unhid c314) (And.intro (unhid c315) (unhid h316_1))))))))))
              have X321 : PX S t (gB_ K V j) (gL K (gC K V j) 600) dt dt317 := PX_sm qX (by omega) (by omega) (by omega)
              have ek322 : (dt317 35 8).toNat = (dt192 35 8).toNat := by omega
              have kk323 : K (dt317 35 8).toNat = K (dt192 35 8).toNat := congrArg K ek322
              have kk324 : V (dt317 35 8).toNat = V (dt192 35 8).toNat := congrArg V ek322
              have Q325 : QX (eB K V j) eNl dt dt317 := QX_st qQ (fun z_ => by omega) (by omega) (fun z_ => h316_0 (by (have z_ := unhid u72_; omega))) (fun z_ => by (try rw [show (dt317 35 8).toNat = (dt192 35 8).toNat by first | with_reducible assumption | exact unhid (by with_reducible assumption) | fail]); first | done | (rw [eL_u (gC_M hz _) (by omega), if_neg (fun z_ => by (have z_ := unhid c225; omega)), if_neg (fun z_ => by (have z_ := unhid c314; omega)), flb_1 (by (have z_ := unhid c315; omega))]; rfl))
              have ql326 := hid (fun (z_ : dt317 35 2 = 0) => (Q325 z_).1)
              refine go_retq PM31 (k := 0) (r := none) (w1 := (SH, dt317)) rfl ?_
              have u74_ := hid (And.intro (unhid h_p2) (And.intro (unhid h_p5) (And.intro (unhid hv0) (And.intro (unhid i200) (And.intro (unhid i205) (And.intro (unhid i206) (And.intro (unhid c225) (And.intro (unhid c314) (And.intro (unhid c315) (And.intro (unhid h316_1) (unhid ql326)))))))))))
              exact ⟨dt317, rfl, hI318, hF320, ⟨rfl, ⟨by exact PX_e (PX_g X321 (fun _ => by rw [gL_u (gC_M hz _) (by omega) (by omega), if_neg (by (have z_ := unhid c225; have z2_ := unhid c314; omega))]; rfl)) (by omega), by first | exact True.intro | with_reducible assumption | exact unhid (by with_reducible assumption) | rfl | omega | trivial, by first | exact True.intro | with_reducible assumption | exact unhid (by with_reducible assumption) | rfl | (have z_ := unhid i200; omega) | trivial, by first | exact True.intro | with_reducible assumption | exact unhid (by with_reducible assumption) | rfl | omega | trivial, by first | (intro z_; exfalso; fail) | exact QX_e Q325 | exact QX_e (QX_g Q325 (fun _ => by rw [eL_u (gC_M hz _) (by fail), if_neg (fun z_ => by fail), if_neg (fun z_ => by fail), flb_0 (by fail)]; rfl)), by first | exact True.intro | with_reducible assumption | exact unhid (by with_reducible assumption) | rfl | (have z_ := unhid u74_; omega) | trivial, by first | exact True.intro | with_reducible assumption | exact unhid (by with_reducible assumption) | rfl | omega | trivial, by first | exact True.intro | with_reducible assumption | exact unhid (by with_reducible assumption) | rfl | omega | trivial⟩⟩⟩
          · skip
            refine go_toq PM31 (k := 1) (pc' := 37) (L' := [some (.inr (.inr (some 35))), some (.inl p1), some (.inl l9_2), some (.inl l9_3)]) (st' := [.inr (.inr (some 35))]) (w' := (SH, dt192)) rfl ?_
            refine go_callq PM31 PM20 (Q' := _) rfl rfl rfl rfl (sp_X1_token_f L xs sio (d + 3) dt192 hI193 K V S t hz ht  (by first | with_reducible assumption | exact unhid (by with_reducible assumption) | exact TKc_fr h_p0 hF194 (by decide) (by decide) (by decide) (by omega) | fail) (by first | with_reducible assumption | exact unhid (by with_reducible assumption) | exact TKc_fr h_p0 hF194 (by decide) (by decide) (by decide) (by fail) | fail) (by first | with_reducible assumption | exact unhid (by with_reducible assumption) | exact TKc_fr h_p0 hF194 (by decide) (by decide) (by decide) (by fail) | fail)) ?_
            rintro _ _ ⟨rfl, h327⟩
            refine ⟨rfl, ?_⟩
            rcases h327 with ⟨v_h327, rfl, h327r, h327⟩
            refine go_ifq PM31 (k := 1) (p1 := 70) (p2 := 46) (L' := [some (.inr (.inr (some 35))), some (.inl p1), some (.inl l9_2), some (.inl l9_3)]) (st' := []) (w' := (SH, dt192)) rfl (c_ne (a := v_h327) (b := 1004) (by first | exact bnd h327r (by decide) (by decide) | exact ⟨by fail, by fail⟩) ⟨by decide, by decide⟩) (fun c329 => ?_) (fun c329 => ?_)
            · skip
              replace c329 := hid c329
              refine go_ifq PM31 (k := 1) (p1 := 80) (p2 := 74) (L' := [some (.inr (.inr (some 35))), some (.inl p1), some (.inl l9_2), some (.inl l9_3)]) (st' := []) (w' := (SH, dt192)) rfl (z_eq (a := l9_2) (by first | exact bnd i195 (by decide) (by decide) | exact ⟨by fail, by fail⟩)) (fun c330 => ?_) (fun c330 => ?_)
              · skip
                refine go_toq PM31 (k := 7) (pc' := 89) (L' := [some (.inr (.inr (some 35))), some (.inl p1), some (.inl 1), some (.inl l9_3)]) (st' := [.inl ((dt192 35 8) + 1), .inr (.inr (some 35))]) (w' := (SH, dt192)) rfl ?_
                have hI331 : InvC (u2 dt192 35 8 ((dt192 35 8) + 1)) := InvC_u2 hI193 (lo := -2147483648) (hi := 2147483647) rfl rfl rfl (by omega) (by omega)
                have hF332 : Fr [35, 42] dt (u2 dt192 35 8 ((dt192 35 8) + 1)) := Fr_u2 hF194 (by decide)
                have w333 : (u2 dt192 35 8 ((dt192 35 8) + 1)) 35 1 = dt192 35 1 := rfl
                have w334 : (u2 dt192 35 8 ((dt192 35 8) + 1)) 35 2 = dt192 35 2 := rfl
                have w335 : (u2 dt192 35 8 ((dt192 35 8) + 1)) 35 3 = dt192 35 3 := rfl
                have w336 : (u2 dt192 35 8 ((dt192 35 8) + 1)) 35 7 = dt192 35 7 := rfl
                have w337 : (u2 dt192 35 8 ((dt192 35 8) + 1)) 35 8 = (dt192 35 8) + 1 := rfl
                have w338 : (u2 dt192 35 8 ((dt192 35 8) + 1)) 35 12 = dt192 35 12 := rfl
                have lv341 := KLIVE hz (D := dt192) (by omega) (by omega) (by (have z_ := unhid i200; omega))
                have X340 : PX S t (gB_ K V j) (fun i => gB (gC K V j i) (gL K (gC K V j) 600)) dt (u2 dt192 35 8 ((dt192 35 8) + 1)) := PX_st qX (SPX_inc hz (by omega) (by omega) (by omega) (by omega) (by omega)) (fun hl => by first | (show (gL K (gC K V j) 600) (dt192 35 8).toNat = (fun i => gB (gC K V j i) (gL K (gC K V j) 600)) ((dt192 35 8).toNat + 1); rw [gL_u (gC_M hz _) (by omega) (by omega), if_pos (by omega)]) | (exfalso; fail))
                refine go_smpq PM31 (L' := [some (.inr (.inr (some 35))), some (.inl p1), some (.inl 1), some (.inl l9_3)]) (st' := []) (w' := (SH, (u2 dt192 35 8 ((dt192 35 8) + 1)))) rfl rfl (s_pf rfl rfl rfl rfl ⟨by omega, by omega⟩) ?_
                refine go_toq PM31 (k := 2) (pc' := 94) (L' := [some (.inr (.inr (some 35))), some (.inl p1), some (.inl 1), some (.inl l9_3)]) (st' := [.inl p1, .inr (.inr (some 35))]) (w' := (SH, (u2 dt192 35 8 ((dt192 35 8) + 1)))) rfl ?_
                refine go_callq PM31 PM32 (Q' := _) rfl rfl rfl rfl (IH_X1_single L xs sio (d + 0) (u2 dt192 35 8 ((dt192 35 8) + 1)) hI331 K V S t hz ht p1 (by first | exact h_p1 | exact bnd h_p1 (by decide) (by decide) | exact ⟨by omega, by omega⟩) (by first | with_reducible assumption | exact unhid (by with_reducible assumption) | exact TKc_fr h_p0 hF332 (by decide) (by decide) (by decide) (by omega) | fail) (by first | with_reducible assumption | exact unhid (by with_reducible assumption) | exact TKc_fr h_p0 hF332 (by decide) (by decide) (by decide) (by omega) | omega) (by first | with_reducible assumption | exact unhid (by with_reducible assumption) | exact TKc_fr h_p0 hF332 (by decide) (by decide) (by decide) (by omega) | omega) (by first | with_reducible assumption | exact unhid (by with_reducible assumption) | exact TKc_fr h_p0 hF332 (by decide) (by decide) (by decide) (by fail) | fail) (by first | with_reducible assumption | exact unhid (by with_reducible assumption) | exact TKc_fr h_p0 hF332 (by decide) (by decide) (by decide) (by omega) | omega) (by first | with_reducible assumption | exact unhid (by with_reducible assumption) | exact TKc_fr h_p0 hF332 (by decide) (by decide) (by decide) (by omega) | (have z_ := unhid h_p5; have z2_ := unhid i205; omega))) ?_
                rintro _ _ ⟨dt343, rfl, hI344, hF345, h342⟩
                refine ⟨rfl, ?_⟩
                have hF346 : Fr [35, 42] dt dt343 := Fr_tr hF332 hF345 (by decide)
                rcases h342 with ⟨rfl, h342⟩
                obtain ⟨h342_0, h342_1, h342_2, h342_3, h342_4, h342_5, h342_6, h342_7⟩ := h342
                have X347 : PX S t (gB_ K V j) (gL K (gC K V j) 600) dt dt343 := PX_st X340 h342_0 (fun hl => by first | exact rfl | (exfalso; fail))
                have Q348 : QX (eB K V j) (eL K (eC K V j) (gC K V j) 600 1) dt dt343 := QX_st qQ (fun z_ => by have y_ := SPX_ok h342_0 (by first | with_reducible assumption | exact unhid (by with_reducible assumption) | omega) z_; first | exact y_.1 | fail) (by omega) (fun z_ => CDX_l (D' := (u2 dt192 35 8 ((dt192 35 8) + 1))) rfl (fun j => u2_ne (by omega)) ((fun z_ => h342_4 z_) z_)) (fun z_ => by have y_ := SPX_ok h342_0 (by first | with_reducible assumption | exact unhid (by with_reducible assumption) | omega) z_; (try rw [y_.2.2]); have hl := y_.2.1; rw [show ((u2 dt192 35 8 ((dt192 35 8) + 1)) 35 8).toNat = (dt192 35 8).toNat + 1 by first | with_reducible assumption | exact unhid (by with_reducible assumption) | omega] at hl ⊢; first | done | (rw [eL_or (gC_M hz _) (by omega) (by omega), flb_0 (by omega), List.nil_append]; unfold eLr; rw [if_pos hl]; first | done | rfl))
                have ql349 := fun (z_ : dt343 35 2 = 0) => (SPX_ok h342_0 (by first | with_reducible assumption | exact unhid (by with_reducible assumption) | omega) z_).1
                replace ql349 := hid ql349
                have ql350 := hid (fun (z_ : dt343 35 2 = 0) => (Q348 z_).1)
                refine go_toq PM31 (k := 2) (pc' := 9) (L' := [some (.inr (.inr (some 35))), some (.inl p1), some (.inl 1), some (.inl (l9_3 + 1))]) (st' := []) (w' := (SH, dt343)) rfl ?_
                exact GO.le (ih_loop209 1 (l9_3 + 1) dt343 hI344 hF346 (by first | with_reducible assumption | exact unhid (by with_reducible assumption) | omega | exact X347 | exact Q348) (by first | with_reducible assumption | exact unhid (by with_reducible assumption) | omega | exact X347 | exact Q348) (by exact X347) (by first | with_reducible assumption | exact unhid (by with_reducible assumption) | omega | exact X347 | exact Q348) (by first | with_reducible assumption | exact unhid (by with_reducible assumption) | fail | exact X347 | exact Q348) (by first | with_reducible assumption | exact unhid (by with_reducible assumption) | fail | exact X347 | exact Q348) (by first | with_reducible assumption | exact unhid (by with_reducible assumption) | omega | exact X347 | exact Q348) (by first | with_reducible assumption | exact unhid (by with_reducible assumption) | omega | exact X347 | exact Q348) (by first | with_reducible assumption | exact unhid (by with_reducible assumption) | omega | exact X347 | exact Q348) (by exact Q348) (by first | with_reducible assumption | exact unhid (by with_reducible assumption) | (have z_ := unhid i205; omega) | exact X347 | exact Q348) (by first | with_reducible assumption | exact unhid (by with_reducible assumption) | (have z_ := unhid i205; omega) | exact X347 | exact Q348) (by first | with_reducible assumption | exact unhid (by with_reducible assumption) | omega | exact X347 | exact Q348) (by first | with_reducible assumption | exact unhid (by with_reducible assumption) | omega | exact X347 | exact Q348) (by omega)) ⟨.inl rfl, .inl rfl, .inl rfl, .inl rfl, trivial⟩
              · skip
                replace c330 := hid c330
                refine go_toq PM31 (k := 2) (pc' := 77) (L' := [some (.inr (.inr (some 35))), some (.inl p1), some (.inl l9_2), some (.inl l9_3)]) (st' := [.inl (-10), .inr (.inr (some 35))]) (w' := (SH, dt192)) rfl ?_
                refine go_callq PM31 PM30 (Q' := _) rfl rfl rfl rfl (sp_X1_emit_f L xs sio (d + 3) dt192 hI193  (-10) ⟨by decide, by decide⟩ ) ?_
                rintro _ _ ⟨dt352, rfl, hI353, hF354, h351⟩
                refine ⟨rfl, ?_⟩
                have hF355 : Fr [35, 42] dt dt352 := Fr_tr hF194 hF354 (by decide)
                rcases h351 with ⟨rfl, h351⟩
                obtain ⟨h351_0, h351_1, h351_2, h351_3, h351_4, h351_5, h351_6⟩ := h351
                replace h351_0 := hid h351_0
                replace h351_1 := hid h351_1
                have u79_ := hid (And.intro (unhid h_p2) (And.intro (unhid h_p5) (And.intro (unhid hv0) (And.intro (unhid i200) (And.intro (unhid i205) (And.intro (unhid i206) (And.intro (unhid c225) (And.intro (unhid c329) (And.intro (unhid c330) (unhid h351_1))))))))))
                have X356 : PX S t (gB_ K V j) (gL K (gC K V j) 600) dt dt352 := PX_sm qX (by omega) (by omega) (by omega)
                have ek357 : (dt352 35 8).toNat = (dt192 35 8).toNat := by omega
                have kk358 : K (dt352 35 8).toNat = K (dt192 35 8).toNat := congrArg K ek357
                have kk359 : V (dt352 35 8).toNat = V (dt192 35 8).toNat := congrArg V ek357
                have Q360 : QX (eB K V j) (eLr K (eC K V j) (gC K V j)) dt dt352 := QX_st qQ (fun z_ => by omega) (by omega) (fun z_ => h351_0 (by (have z_ := unhid u79_; omega))) (fun z_ => by (try rw [show (dt352 35 8).toNat = (dt192 35 8).toNat by first | with_reducible assumption | exact unhid (by with_reducible assumption) | fail]); first | done | (exact (eL_or (gC_M hz _) (by omega) (by omega)).trans (by rw [flb_1 (by (have z_ := unhid c330; omega))])))
                have ql361 := hid (fun (z_ : dt352 35 2 = 0) => (Q360 z_).1)
                refine go_toq PM31 (k := 7) (pc' := 89) (L' := [some (.inr (.inr (some 35))), some (.inl p1), some (.inl 1), some (.inl l9_3)]) (st' := [.inl ((dt352 35 8) + 1), .inr (.inr (some 35))]) (w' := (SH, dt352)) rfl ?_
                have u81_ := hid (And.intro (unhid h_p2) (And.intro (unhid h_p5) (And.intro (unhid hv0) (And.intro (unhid i200) (And.intro (unhid i205) (And.intro (unhid i206) (And.intro (unhid c225) (And.intro (unhid c329) (And.intro (unhid c330) (And.intro (unhid h351_1) (unhid ql361)))))))))))
                have hI362 : InvC (u2 dt352 35 8 ((dt352 35 8) + 1)) := InvC_u2 hI353 (lo := -2147483648) (hi := 2147483647) rfl rfl rfl (by omega) (by omega)
                have hF363 : Fr [35, 42] dt (u2 dt352 35 8 ((dt352 35 8) + 1)) := Fr_u2 hF355 (by decide)
                have w364 : (u2 dt352 35 8 ((dt352 35 8) + 1)) 35 1 = dt352 35 1 := rfl
                have w365 : (u2 dt352 35 8 ((dt352 35 8) + 1)) 35 2 = dt352 35 2 := rfl
                have w366 : (u2 dt352 35 8 ((dt352 35 8) + 1)) 35 3 = dt352 35 3 := rfl
                have w367 : (u2 dt352 35 8 ((dt352 35 8) + 1)) 35 7 = dt352 35 7 := rfl
                have w368 : (u2 dt352 35 8 ((dt352 35 8) + 1)) 35 8 = (dt352 35 8) + 1 := rfl
                have w369 : (u2 dt352 35 8 ((dt352 35 8) + 1)) 35 12 = dt352 35 12 := rfl
                have lv372 := KLIVE hz (D := dt352) (by omega) (by omega) (by (have z_ := unhid i200; omega))
                have X371 : PX S t (gB_ K V j) (fun i => gB (gC K V j i) (gL K (gC K V j) 600)) dt (u2 dt352 35 8 ((dt352 35 8) + 1)) := PX_st X356 (SPX_inc hz (by omega) (by omega) (by omega) (by omega) (by omega)) (fun hl => by first | (show (gL K (gC K V j) 600) (dt352 35 8).toNat = (fun i => gB (gC K V j i) (gL K (gC K V j) 600)) ((dt352 35 8).toNat + 1); rw [gL_u (gC_M hz _) (by omega) (by omega), if_pos (by omega)]) | (exfalso; fail))
                refine go_smpq PM31 (L' := [some (.inr (.inr (some 35))), some (.inl p1), some (.inl 1), some (.inl l9_3)]) (st' := []) (w' := (SH, (u2 dt352 35 8 ((dt352 35 8) + 1)))) rfl rfl (s_pf rfl rfl rfl rfl ⟨by omega, by omega⟩) ?_
                refine go_toq PM31 (k := 2) (pc' := 94) (L' := [some (.inr (.inr (some 35))), some (.inl p1), some (.inl 1), some (.inl l9_3)]) (st' := [.inl p1, .inr (.inr (some 35))]) (w' := (SH, (u2 dt352 35 8 ((dt352 35 8) + 1)))) rfl ?_
                refine go_callq PM31 PM32 (Q' := _) rfl rfl rfl rfl (IH_X1_single L xs sio (d + 0) (u2 dt352 35 8 ((dt352 35 8) + 1)) hI362 K V S t hz ht p1 (by first | exact h_p1 | exact bnd h_p1 (by decide) (by decide) | exact ⟨by omega, by omega⟩) (by first | with_reducible assumption | exact unhid (by with_reducible assumption) | exact TKc_fr h_p0 hF363 (by decide) (by decide) (by decide) (by omega) | fail) (by first | with_reducible assumption | exact unhid (by with_reducible assumption) | exact TKc_fr h_p0 hF363 (by decide) (by decide) (by decide) (by omega) | omega) (by first | with_reducible assumption | exact unhid (by with_reducible assumption) | exact TKc_fr h_p0 hF363 (by decide) (by decide) (by decide) (by omega) | omega) (by first | with_reducible assumption | exact unhid (by with_reducible assumption) | exact TKc_fr h_p0 hF363 (by decide) (by decide) (by decide) (by fail) | fail) (by first | with_reducible assumption | exact unhid (by with_reducible assumption) | exact TKc_fr h_p0 hF363 (by decide) (by decide) (by decide) (by omega) | omega) (by first | with_reducible assumption | exact unhid (by with_reducible assumption) | exact TKc_fr h_p0 hF363 (by decide) (by decide) (by decide) (by omega) | (have z_ := unhid u81_; omega))) ?_
                rintro _ _ ⟨dt374, rfl, hI375, hF376, h373⟩
                refine ⟨rfl, ?_⟩
                have hF377 : Fr [35, 42] dt dt374 := Fr_tr hF363 hF376 (by decide)
                rcases h373 with ⟨rfl, h373⟩
                obtain ⟨h373_0, h373_1, h373_2, h373_3, h373_4, h373_5, h373_6, h373_7⟩ := h373
                have X378 : PX S t (gB_ K V j) (gL K (gC K V j) 600) dt dt374 := PX_st X371 h373_0 (fun hl => by first | exact rfl | (exfalso; fail))
                have Q379 : QX (eB K V j) (eL K (eC K V j) (gC K V j) 600 1) dt dt374 := QX_st Q360 (fun z_ => by have y_ := SPX_ok h373_0 (by first | with_reducible assumption | exact unhid (by with_reducible assumption) | omega) z_; first | exact y_.1 | fail) (by omega) (fun z_ => CDX_l (D' := (u2 dt352 35 8 ((dt352 35 8) + 1))) rfl (fun j => u2_ne (by omega)) ((fun z_ => h373_4 z_) z_)) (fun z_ => by have y_ := SPX_ok h373_0 (by first | with_reducible assumption | exact unhid (by with_reducible assumption) | omega) z_; (try rw [y_.2.2]); have hl := y_.2.1; rw [show ((u2 dt352 35 8 ((dt352 35 8) + 1)) 35 8).toNat = (dt352 35 8).toNat + 1 by first | with_reducible assumption | exact unhid (by with_reducible assumption) | omega] at hl ⊢; first | done | (unfold eLr; rw [if_pos hl]; first | done | rfl))
                have ql380 := fun (z_ : dt374 35 2 = 0) => (SPX_ok h373_0 (by first | with_reducible assumption | exact unhid (by with_reducible assumption) | omega) z_).1
                replace ql380 := hid ql380
                have ql381 := hid (fun (z_ : dt374 35 2 = 0) => (Q379 z_).1)
                refine go_toq PM31 (k := 2) (pc' := 9) (L' := [some (.inr (.inr (some 35))), some (.inl p1), some (.inl 1), some (.inl (l9_3 + 1))]) (st' := []) (w' := (SH, dt374)) rfl ?_
                have u83_ := hid (And.intro (unhid h_p2) (And.intro (unhid h_p5) (And.intro (unhid hv0) (And.intro (unhid i200) (And.intro (unhid i205) (And.intro (unhid i206) (And.intro (unhid c225) (And.intro (unhid c329) (And.intro (unhid c330) (And.intro (unhid h351_1) (And.intro (unhid ql361) (And.intro (unhid ql380) (unhid ql381)))))))))))))
                exact GO.le (ih_loop209 1 (l9_3 + 1) dt374 hI375 hF377 (by first | with_reducible assumption | exact unhid (by with_reducible assumption) | omega | exact X378 | exact Q379) (by first | with_reducible assumption | exact unhid (by with_reducible assumption) | omega | exact X378 | exact Q379) (by exact X378) (by first | with_reducible assumption | exact unhid (by with_reducible assumption) | omega | exact X378 | exact Q379) (by first | with_reducible assumption | exact unhid (by with_reducible assumption) | fail | exact X378 | exact Q379) (by first | with_reducible assumption | exact unhid (by with_reducible assumption) | fail | exact X378 | exact Q379) (by first | with_reducible assumption | exact unhid (by with_reducible assumption) | omega | exact X378 | exact Q379) (by first | with_reducible assumption | exact unhid (by with_reducible assumption) | omega | exact X378 | exact Q379) (by first | with_reducible assumption | exact unhid (by with_reducible assumption) | omega | exact X378 | exact Q379) (by exact Q379) (by first | with_reducible assumption | exact unhid (by with_reducible assumption) | (have z_ := unhid u83_; omega) | exact X378 | exact Q379) (by first | with_reducible assumption | exact unhid (by with_reducible assumption) | (have z_ := unhid u83_; omega) | exact X378 | exact Q379) (by first | with_reducible assumption | exact unhid (by with_reducible assumption) | omega | exact X378 | exact Q379) (by first | with_reducible assumption | exact unhid (by with_reducible assumption) | omega | exact X378 | exact Q379) (by omega)) ⟨.inl rfl, .inl rfl, .inl rfl, .inl rfl, trivial⟩
            · skip
              refine go_toq PM31 (k := 5) (pc' := 53) (L' := [some (.inr (.inr (some 35))), some (.inl p1), some (.inl l9_2), some (.inl l9_3)]) (st' := [.inl ((dt192 35 8) + 1), .inr (.inr (some 35))]) (w' := (SH, dt192)) rfl ?_
              have hI382 : InvC (u2 dt192 35 8 ((dt192 35 8) + 1)) := InvC_u2 hI193 (lo := -2147483648) (hi := 2147483647) rfl rfl rfl (by omega) (by omega)
              have hF383 : Fr [35, 42] dt (u2 dt192 35 8 ((dt192 35 8) + 1)) := Fr_u2 hF194 (by decide)
              have w384 : (u2 dt192 35 8 ((dt192 35 8) + 1)) 35 1 = dt192 35 1 := rfl
              have w385 : (u2 dt192 35 8 ((dt192 35 8) + 1)) 35 2 = dt192 35 2 := rfl
              have w386 : (u2 dt192 35 8 ((dt192 35 8) + 1)) 35 3 = dt192 35 3 := rfl
              have w387 : (u2 dt192 35 8 ((dt192 35 8) + 1)) 35 7 = dt192 35 7 := rfl
              have w388 : (u2 dt192 35 8 ((dt192 35 8) + 1)) 35 8 = (dt192 35 8) + 1 := rfl
              have w389 : (u2 dt192 35 8 ((dt192 35 8) + 1)) 35 12 = dt192 35 12 := rfl
              have lv392 := KLIVE hz (D := dt192) (by omega) (by omega) (by omega)
              have X391 : PX S t (gB_ K V j) (fun i => gB (gC K V j i) (gL K (gC K V j) 600)) dt (u2 dt192 35 8 ((dt192 35 8) + 1)) := PX_st qX (SPX_inc hz (by omega) (by omega) (by omega) (by omega) (by omega)) (fun hl => by first | (show (gL K (gC K V j) 600) (dt192 35 8).toNat = (fun i => gB (gC K V j i) (gL K (gC K V j) 600)) ((dt192 35 8).toNat + 1); rw [gL_u (gC_M hz _) (by omega) (by omega), if_pos (by omega)]) | (exfalso; fail))
              refine go_smpq PM31 (L' := [some (.inr (.inr (some 35))), some (.inl p1), some (.inl l9_2), some (.inl l9_3)]) (st' := []) (w' := (SH, (u2 dt192 35 8 ((dt192 35 8) + 1)))) rfl rfl (s_pf rfl rfl rfl rfl ⟨by omega, by omega⟩) ?_
              refine go_toq PM31 (k := 2) (pc' := 58) (L' := [some (.inr (.inr (some 35))), some (.inl p1), some (.inl l9_2), some (.inl l9_3)]) (st' := [.inl p1, .inr (.inr (some 35))]) (w' := (SH, (u2 dt192 35 8 ((dt192 35 8) + 1)))) rfl ?_
              refine go_callq PM31 PM32 (Q' := _) rfl rfl rfl rfl (IH_X1_single L xs sio (d + 0) (u2 dt192 35 8 ((dt192 35 8) + 1)) hI382 K V S t hz ht p1 (by first | exact h_p1 | exact bnd h_p1 (by decide) (by decide) | exact ⟨by omega, by omega⟩) (by first | with_reducible assumption | exact unhid (by with_reducible assumption) | exact TKc_fr h_p0 hF383 (by decide) (by decide) (by decide) (by omega) | fail) (by first | with_reducible assumption | exact unhid (by with_reducible assumption) | exact TKc_fr h_p0 hF383 (by decide) (by decide) (by decide) (by omega) | omega) (by first | with_reducible assumption | exact unhid (by with_reducible assumption) | exact TKc_fr h_p0 hF383 (by decide) (by decide) (by decide) (by omega) | omega) (by first | with_reducible assumption | exact unhid (by with_reducible assumption) | exact TKc_fr h_p0 hF383 (by decide) (by decide) (by decide) (by fail) | fail) (by first | with_reducible assumption | exact unhid (by with_reducible assumption) | exact TKc_fr h_p0 hF383 (by decide) (by decide) (by decide) (by omega) | omega) (by first | with_reducible assumption | exact unhid (by with_reducible assumption) | exact TKc_fr h_p0 hF383 (by decide) (by decide) (by decide) (by omega) | omega)) ?_
              rintro _ _ ⟨dt394, rfl, hI395, hF396, h393⟩
              refine ⟨rfl, ?_⟩
              have hF397 : Fr [35, 42] dt dt394 := Fr_tr hF383 hF396 (by decide)
              rcases h393 with ⟨rfl, h393⟩
              obtain ⟨h393_0, h393_1, h393_2, h393_3, h393_4, h393_5, h393_6, h393_7⟩ := h393
              have X398 : PX S t (gB_ K V j) (gL K (gC K V j) 600) dt dt394 := PX_st X391 h393_0 (fun hl => by first | exact rfl | (exfalso; fail))
              have Q399 : QX (eB K V j) (fun i => [-9] ++ (eL K (eC K V j) (gC K V j) 600 l9_2) i) dt dt394 := QX_st qQ (fun z_ => by have y_ := SPX_ok h393_0 (by first | with_reducible assumption | exact unhid (by with_reducible assumption) | omega) z_; first | exact y_.1 | fail) (by omega) (fun z_ => CDX_l (D' := (u2 dt192 35 8 ((dt192 35 8) + 1))) rfl (fun j => u2_ne (by omega)) ((fun z_ => h393_4 z_) z_)) (fun z_ => by have y_ := SPX_ok h393_0 (by first | with_reducible assumption | exact unhid (by with_reducible assumption) | omega) z_; (try rw [y_.2.2]); have hl := y_.2.1; rw [show ((u2 dt192 35 8 ((dt192 35 8) + 1)) 35 8).toNat = (dt192 35 8).toNat + 1 by first | with_reducible assumption | exact unhid (by with_reducible assumption) | omega] at hl ⊢; first | done | (rw [eL_u (gC_M hz _) (by omega), if_pos ⟨by omega, hl⟩]))
              have ql400 := fun (z_ : dt394 35 2 = 0) => (SPX_ok h393_0 (by first | with_reducible assumption | exact unhid (by with_reducible assumption) | omega) z_).1
              replace ql400 := hid ql400
              have ql401 := hid (fun (z_ : dt394 35 2 = 0) => (Q399 z_).1)
              refine go_toq PM31 (k := 2) (pc' := 64) (L' := [some (.inr (.inr (some 35))), some (.inl p1), some (.inl l9_2), some (.inl l9_3)]) (st' := [.inl (-9), .inr (.inr (some 35))]) (w' := (SH, dt394)) rfl ?_
              refine go_callq PM31 PM30 (Q' := _) rfl rfl rfl rfl (sp_X1_emit_f L xs sio (d + 3) dt394 hI395  (-9) ⟨by decide, by decide⟩ ) ?_
              rintro _ _ ⟨dt403, rfl, hI404, hF405, h402⟩
              refine ⟨rfl, ?_⟩
              have hF406 : Fr [35, 42] dt dt403 := Fr_tr hF397 hF405 (by decide)
              rcases h402 with ⟨rfl, h402⟩
              obtain ⟨h402_0, h402_1, h402_2, h402_3, h402_4, h402_5, h402_6⟩ := h402
              replace h402_0 := hid h402_0
              replace h402_1 := hid h402_1
              have X407 : PX S t (gB_ K V j) (gL K (gC K V j) 600) dt dt403 := PX_sm X398 (by omega) (by omega) (by omega)
              have ek408 : (dt403 35 8).toNat = (dt394 35 8).toNat := by omega
              have kk409 : K (dt403 35 8).toNat = K (dt394 35 8).toNat := congrArg K ek408
              have kk410 : V (dt403 35 8).toNat = V (dt394 35 8).toNat := congrArg V ek408
              have Q411 : QX (eB K V j) (eL K (eC K V j) (gC K V j) 600 l9_2) dt dt403 := QX_st Q399 (fun z_ => by omega) (by omega) (fun z_ => h402_0 (by omega)) (fun z_ => by (try rw [show (dt403 35 8).toNat = (dt394 35 8).toNat by first | with_reducible assumption | exact unhid (by with_reducible assumption) | fail]); first | done | (rfl))
              have ql412 := hid (fun (z_ : dt403 35 2 = 0) => (Q411 z_).1)
              refine go_toq PM31 (k := 3) (pc' := 9) (L' := [some (.inr (.inr (some 35))), some (.inl p1), some (.inl l9_2), some (.inl (l9_3 + 1))]) (st' := []) (w' := (SH, dt403)) rfl ?_
              exact GO.le (ih_loop209 l9_2 (l9_3 + 1) dt403 hI404 hF406 (by first | with_reducible assumption | exact unhid (by with_reducible assumption) | fail | exact X407 | exact Q411) (by first | with_reducible assumption | exact unhid (by with_reducible assumption) | omega | exact X407 | exact Q411) (by exact X407) (by first | with_reducible assumption | exact unhid (by with_reducible assumption) | omega | exact X407 | exact Q411) (by first | with_reducible assumption | exact unhid (by with_reducible assumption) | omega | exact X407 | exact Q411) (by first | with_reducible assumption | exact unhid (by with_reducible assumption) | omega | exact X407 | exact Q411) (by first | with_reducible assumption | exact unhid (by with_reducible assumption) | omega | exact X407 | exact Q411) (by first | with_reducible assumption | exact unhid (by with_reducible assumption) | omega | exact X407 | exact Q411) (by first | with_reducible assumption | exact unhid (by with_reducible assumption) | omega | exact X407 | exact Q411) (by exact Q411) (by first | with_reducible assumption | exact unhid (by with_reducible assumption) | omega | exact X407 | exact Q411) (by first | with_reducible assumption | exact unhid (by with_reducible assumption) | omega | exact X407 | exact Q411) (by first | with_reducible assumption | exact unhid (by with_reducible assumption) | omega | exact X407 | exact Q411) (by first | with_reducible assumption | exact unhid (by with_reducible assumption) | omega | exact X407 | exact Q411) (by omega)) ⟨.inl rfl, .inl rfl, .inl rfl, .inl rfl, trivial⟩
  exact GO.le (loop209 _ 0 0 dt4 hI5 hF7 (by first | with_reducible assumption | exact unhid (by with_reducible assumption) | omega | exact X8 | exact Q9) (by first | with_reducible assumption | exact unhid (by with_reducible assumption) | omega | exact X8 | exact Q9) (by exact X8) (by first | with_reducible assumption | exact unhid (by with_reducible assumption) | omega | exact X8 | exact Q9) (by first | with_reducible assumption | exact unhid (by with_reducible assumption) | fail | exact X8 | exact Q9) (by first | with_reducible assumption | exact unhid (by with_reducible assumption) | fail | exact X8 | exact Q9) (by first | with_reducible assumption | exact unhid (by with_reducible assumption) | fail | exact X8 | exact Q9) (by first | with_reducible assumption | exact unhid (by with_reducible assumption) | fail | exact X8 | exact Q9) (by first | with_reducible assumption | exact unhid (by with_reducible assumption) | fail | exact X8 | exact Q9) (by exact Q9) (by first | with_reducible assumption | exact unhid (by with_reducible assumption) | fail | exact X8 | exact Q9) (by first | with_reducible assumption | exact unhid (by with_reducible assumption) | omega | exact X8 | exact Q9) (by first | with_reducible assumption | exact unhid (by with_reducible assumption) | fail | exact X8 | exact Q9) (by first | with_reducible assumption | exact unhid (by with_reducible assumption) | fail | exact X8 | exact Q9) (Nat.lt_succ_self _)) ⟨.inl rfl, .inl rfl, .inl rfl, .inl rfl, trivial⟩
set_option maxHeartbeats 8000000 in
theorem lv_X1_single_f (L : Nat) (xs : Nat → Int32) (sio : Option Nat) (d : Nat) (dt : Nat → Nat → Int) (hI : InvC dt) (K V S : Nat → Int) (t : Nat) (hz : KZ K t) (ht : t ≤ 500) (j : Nat) (IH_X1_single : ∀ (L : Nat) (xs : Nat → Int32) (sio : Option Nat) (d : Nat) (dt : Nat → Nat → Int) (hI : InvC dt) (K V S : Nat → Int) (t : Nat) (hz : KZ K t) (ht : t ≤ 500) (p1 : Int) (h_p1 : 0 ≤ p1 ∧ p1 ≤ 8) (h_p0 : TKc K V S t dt) (h_p1 : 0 ≤ dt 35 8 ∧ dt 35 8 ≤ (t : Int)) (h_p2 : ¬ dt 35 2 = 0 → dt 35 8 = (t : Int)) (h_p3 : p1 + ((j : Nat) : Int) = 8) (h_p4 : 2 * j ≤ d) (h_p5 : dt 35 2 = 0 → dt 35 12 ≤ dt 35 8), GO (am_XX L xs sio) (d + 3) 32 0 [some (.inr (.inr (some 35))), some (.inl p1), none, none] [] (SH, dt) (fun r w2 => ∃ dt2 : Nat → Nat → Int, w2 = (SH, dt2) ∧ InvC dt2 ∧ Fr [35, 42] dt dt2 ∧ ((r = none ∧ (SPX S t dt dt2 (gC K V j)) ∧ (0 ≤ dt2 35 8 ∧ dt2 35 8 ≤ (t : Int)) ∧ (¬ dt2 35 2 = 0 → dt2 35 8 = (t : Int)) ∧ (dt 35 8 ≤ dt2 35 8) ∧ (dt2 35 2 = 0 → CDX dt dt2 ((eC K V j) (dt 35 8).toNat)) ∧ (dt2 35 2 = 0 → dt2 35 12 + dt 35 8 ≤ dt2 35 8 + dt 35 12) ∧ (dt2 35 1 = dt 35 1) ∧ (dt2 35 7 = dt 35 7))))) (IH_X1_condition : ∀ (L : Nat) (xs : Nat → Int32) (sio : Option Nat) (d : Nat) (dt : Nat → Nat → Int) (hI : InvC dt) (K V S : Nat → Int) (t : Nat) (hz : KZ K t) (ht : t ≤ 500) (p1 : Int) (h_p1 : 0 ≤ p1 ∧ p1 ≤ 8) (h_p0 : TKc K V S t dt) (h_p1 : 0 ≤ dt 35 8 ∧ dt 35 8 ≤ (t : Int)) (h_p2 : ¬ dt 35 2 = 0 → dt 35 8 = (t : Int)) (h_p3 : p1 + ((j : Nat) : Int) = 8) (h_p4 : 2 * j ≤ d) (h_p5 : dt 35 2 = 0 → dt 35 12 ≤ dt 35 8), GO (am_XX L xs sio) (d + 4) 31 0 [some (.inr (.inr (some 35))), some (.inl p1), none, none] [] (SH, dt) (fun r w2 => ∃ dt2 : Nat → Nat → Int, w2 = (SH, dt2) ∧ InvC dt2 ∧ Fr [35, 42] dt dt2 ∧ ((r = none ∧ (SPX S t dt dt2 (gB_ K V j)) ∧ (0 ≤ dt2 35 8 ∧ dt2 35 8 ≤ (t : Int)) ∧ (¬ dt2 35 2 = 0 → dt2 35 8 = (t : Int)) ∧ (dt 35 8 ≤ dt2 35 8) ∧ (dt2 35 2 = 0 → CDX dt dt2 ((eB K V j) (dt 35 8).toNat)) ∧ (dt2 35 2 = 0 → dt2 35 12 + dt 35 8 ≤ dt2 35 8 + dt 35 12) ∧ (dt2 35 1 = dt 35 1) ∧ (dt2 35 7 = dt 35 7)))))  (p1 : Int) (h_p1 : 0 ≤ p1 ∧ p1 ≤ 8) (h_p0 : TKc K V S t dt) (h_p1 : 0 ≤ dt 35 8 ∧ dt 35 8 ≤ (t : Int)) (h_p2 : ¬ dt 35 2 = 0 → dt 35 8 = (t : Int)) (h_p3 : p1 + (((j + 1) : Nat) : Int) = 8) (h_p4 : 2 * j ≤ d) (h_p5 : dt 35 2 = 0 → dt 35 12 ≤ dt 35 8) : GO (am_XX L xs sio) (d + 5) 32 0 [some (.inr (.inr (some 35))), some (.inl p1), none, none] [] (SH, dt) (fun r w2 => ∃ dt2 : Nat → Nat → Int, w2 = (SH, dt2) ∧ InvC dt2 ∧ Fr [35, 42] dt dt2 ∧ ((r = none ∧ (SPX S t dt dt2 (gC K V (j + 1))) ∧ (0 ≤ dt2 35 8 ∧ dt2 35 8 ≤ (t : Int)) ∧ (¬ dt2 35 2 = 0 → dt2 35 8 = (t : Int)) ∧ (dt 35 8 ≤ dt2 35 8) ∧ (dt2 35 2 = 0 → CDX dt dt2 ((eC K V (j + 1)) (dt 35 8).toNat)) ∧ (dt2 35 2 = 0 → dt2 35 12 + dt 35 8 ≤ dt2 35 8 + dt 35 12) ∧ (dt2 35 1 = dt 35 1) ∧ (dt2 35 7 = dt 35 7)))) := by
  replace h_p2 := hid h_p2
  replace h_p5 := hid h_p5
  have hF : Fr [35, 42] dt dt := Fr_refl
  have r1 : 0 ≤ dt 35 12 ∧ dt 35 12 ≤ 500 := InvC_get hI 35 12 rfl rfl
  have r2 : (-2147483648) ≤ dt 35 2 ∧ dt 35 2 ≤ 2147483647 := InvC_get hI 35 2 rfl rfl
  have h7 : dt 35 7 = (t : Int) + 1 := h_p0.1
  have hk0 := TKc_k h_p0 h_p1
  have hv0 := hid (TKc_v h_p0 h_p1)
  have hs0 := TKc_s h_p0 h_p1
  have lt0_ := KZ_lt (i := (dt 35 8).toNat) hz
  refine go_toq PM32 (k := 1) (pc' := 1) (L' := [some (.inr (.inr (some 35))), some (.inl p1), none, none]) (st' := [.inr (.inr (some 35))]) (w' := (SH, dt)) rfl ?_
  refine go_callq PM32 PM20 (Q' := _) rfl rfl rfl rfl (sp_X1_token_f L xs sio (d + 4) dt hI K V S t hz ht  (by first | with_reducible assumption | exact unhid (by with_reducible assumption) | exact TKc_fr h_p0 hF (by decide) (by decide) (by decide) (by fail) | fail) (by first | with_reducible assumption | exact unhid (by with_reducible assumption) | exact TKc_fr h_p0 hF (by decide) (by decide) (by decide) (by fail) | fail) (by first | with_reducible assumption | exact unhid (by with_reducible assumption) | exact TKc_fr h_p0 hF (by decide) (by decide) (by decide) (by fail) | fail)) ?_
  rintro _ _ ⟨rfl, h3⟩
  refine ⟨rfl, ?_⟩
  rcases h3 with ⟨v_h3, rfl, h3r, h3⟩
  refine go_ifq PM32 (k := 1) (p1 := 14) (p2 := 10) (L' := [some (.inr (.inr (some 35))), some (.inl p1), none, none]) (st' := []) (w' := (SH, dt)) rfl (c_ne (a := v_h3) (b := 1005) (by first | exact bnd h3r (by decide) (by decide) | exact ⟨by fail, by fail⟩) ⟨by decide, by decide⟩) (fun c5 => ?_) (fun c5 => ?_)
  · skip
    replace c5 := hid c5
    refine go_toq PM32 (k := 5) (pc' := 21) (L' := [some (.inr (.inr (some 35))), some (.inl p1), some (.inl 0), none]) (st' := [.inr (.inr (some 35))]) (w' := (SH, dt)) rfl ?_
    refine go_callq PM32 PM20 (Q' := _) rfl rfl rfl rfl (sp_X1_token_f L xs sio (d + 4) dt hI K V S t hz ht  (by first | with_reducible assumption | exact unhid (by with_reducible assumption) | exact TKc_fr h_p0 hF (by decide) (by decide) (by decide) (by fail) | fail) (by first | with_reducible assumption | exact unhid (by with_reducible assumption) | exact TKc_fr h_p0 hF (by decide) (by decide) (by decide) (by fail) | fail) (by first | with_reducible assumption | exact unhid (by with_reducible assumption) | exact TKc_fr h_p0 hF (by decide) (by decide) (by decide) (by fail) | fail)) ?_
    rintro _ _ ⟨rfl, h6⟩
    refine ⟨rfl, ?_⟩
    rcases h6 with ⟨v_h6, rfl, h6r, h6⟩
    refine go_ifq PM32 (k := 1) (p1 := 107) (p2 := 29) (L' := [some (.inr (.inr (some 35))), some (.inl p1), some (.inl 0), none]) (st' := []) (w' := (SH, dt)) rfl (c_eq (a := v_h6) (b := 40) (by first | exact bnd h6r (by decide) (by decide) | exact ⟨by fail, by fail⟩) ⟨by decide, by decide⟩) (fun c8 => ?_) (fun c8 => ?_)
    · skip
      refine go_ifq PM32 (k := 2) (p1 := 121) (p2 := 113) (L' := [some (.inr (.inr (some 35))), some (.inl p1), some (.inl 0), none]) (st' := []) (w' := (SH, dt)) rfl (c_lt (a := p1) (b := 8) (by first | exact bnd h_p1 (by decide) (by decide) | exact ⟨by omega, by omega⟩) ⟨by decide, by decide⟩) (fun c9 => ?_) (fun c9 => ?_)
      · skip
        refine go_toq PM32 (k := 7) (pc' := 158) (L' := [some (.inr (.inr (some 35))), some (.inl p1), some (.inl 0), none]) (st' := [.inl ((dt 35 8) + 1), .inr (.inr (some 35))]) (w' := (SH, dt)) rfl ?_
        have hI10 : InvC (u2 dt 35 8 ((dt 35 8) + 1)) := InvC_u2 hI (lo := -2147483648) (hi := 2147483647) rfl rfl rfl (by omega) (by omega)
        have hF11 : Fr [35, 42] dt (u2 dt 35 8 ((dt 35 8) + 1)) := Fr_u2 hF (by decide)
        have w12 : (u2 dt 35 8 ((dt 35 8) + 1)) 35 1 = dt 35 1 := rfl
        have w13 : (u2 dt 35 8 ((dt 35 8) + 1)) 35 2 = dt 35 2 := rfl
        have w14 : (u2 dt 35 8 ((dt 35 8) + 1)) 35 3 = dt 35 3 := rfl
        have w15 : (u2 dt 35 8 ((dt 35 8) + 1)) 35 7 = dt 35 7 := rfl
        have w16 : (u2 dt 35 8 ((dt 35 8) + 1)) 35 8 = (dt 35 8) + 1 := rfl
        have w17 : (u2 dt 35 8 ((dt 35 8) + 1)) 35 12 = dt 35 12 := rfl
        have lv20 := KLIVE hz (D := dt) (by omega) (by omega) (by (have z_ := unhid h_p2; omega))
        have X19 : PX S t (gC K V (j + 1)) (fun i => gB (gB_ K V j i) (gK K 41)) dt (u2 dt 35 8 ((dt 35 8) + 1)) := PX_st PX_0 (SPX_inc hz (by omega) (by omega) (by omega) (by omega) (by omega)) (fun hl => by first | (show (gC K V (j + 1)) (dt 35 8).toNat = (fun i => gB (gB_ K V j i) (gK K 41)) ((dt 35 8).toNat + 1); exact gC_p (by omega)) | (exfalso; fail))
        refine go_smpq PM32 (L' := [some (.inr (.inr (some 35))), some (.inl p1), some (.inl 0), none]) (st' := []) (w' := (SH, (u2 dt 35 8 ((dt 35 8) + 1)))) rfl rfl (s_pf rfl rfl rfl rfl ⟨by omega, by omega⟩) ?_
        refine go_toq PM32 (k := 4) (pc' := 165) (L' := [some (.inr (.inr (some 35))), some (.inl p1), some (.inl 0), none]) (st' := [.inl (p1 + 1), .inr (.inr (some 35))]) (w' := (SH, (u2 dt 35 8 ((dt 35 8) + 1)))) rfl ?_
        refine go_callq PM32 PM31 (Q' := _) rfl rfl rfl rfl (IH_X1_condition L xs sio (d + 0) (u2 dt 35 8 ((dt 35 8) + 1)) hI10 K V S t hz ht (p1 + 1) (by first | exact bndp h_p1 (by decide) (by decide) | exact ⟨by omega, by omega⟩) (by first | with_reducible assumption | exact unhid (by with_reducible assumption) | exact TKc_fr h_p0 hF11 (by decide) (by decide) (by decide) (by omega) | fail) (by first | with_reducible assumption | exact unhid (by with_reducible assumption) | exact TKc_fr h_p0 hF11 (by decide) (by decide) (by decide) (by omega) | omega) (by first | with_reducible assumption | exact unhid (by with_reducible assumption) | exact TKc_fr h_p0 hF11 (by decide) (by decide) (by decide) (by omega) | omega) (by first | with_reducible assumption | exact unhid (by with_reducible assumption) | exact TKc_fr h_p0 hF11 (by decide) (by decide) (by decide) (by omega) | omega) (by first | with_reducible assumption | exact unhid (by with_reducible assumption) | exact TKc_fr h_p0 hF11 (by decide) (by decide) (by decide) (by omega) | omega) (by first | with_reducible assumption | exact unhid (by with_reducible assumption) | exact TKc_fr h_p0 hF11 (by decide) (by decide) (by decide) (by omega) | (have z_ := unhid h_p5; omega))) ?_
        rintro _ _ ⟨dt22, rfl, hI23, hF24, h21⟩
        refine ⟨rfl, ?_⟩
        have hF25 : Fr [35, 42] dt dt22 := Fr_tr hF11 hF24 (by decide)
        rcases h21 with ⟨rfl, h21⟩
        obtain ⟨h21_0, h21_1, h21_2, h21_3, h21_4, h21_5, h21_6, h21_7⟩ := h21
        have X26 : PX S t (gC K V (j + 1)) (gK K 41) dt dt22 := PX_st X19 h21_0 (fun hl => by first | exact rfl | (exfalso; fail))
        have Q27 : QX (eC K V (j + 1)) eNl dt dt22 := QX_st QX_0 (fun z_ => by have y_ := SPX_ok h21_0 (by first | with_reducible assumption | exact unhid (by with_reducible assumption) | omega) z_; first | exact y_.1 | fail) (by omega) (fun z_ => CDX_l (D' := (u2 dt 35 8 ((dt 35 8) + 1))) rfl (fun j => u2_ne (by omega)) ((fun z_ => h21_4 z_) z_)) (fun z_ => by have y_ := SPX_ok h21_0 (by first | with_reducible assumption | exact unhid (by with_reducible assumption) | omega) z_; (try rw [y_.2.2]); have hl := y_.2.1; rw [show ((u2 dt 35 8 ((dt 35 8) + 1)) 35 8).toNat = (dt 35 8).toNat + 1 by first | with_reducible assumption | exact unhid (by with_reducible assumption) | omega] at hl ⊢; first | done | (exact (eC_p (by omega)).trans (List.append_nil _).symm))
        have ql28 := fun (z_ : dt22 35 2 = 0) => (SPX_ok h21_0 (by first | with_reducible assumption | exact unhid (by with_reducible assumption) | omega) z_).1
        replace ql28 := hid ql28
        have ql29 := hid (fun (z_ : dt22 35 2 = 0) => (Q27 z_).1)
        refine go_toq PM32 (k := 2) (pc' := 171) (L' := [some (.inr (.inr (some 35))), some (.inl p1), some (.inl 0), none]) (st' := [.inl 41, .inr (.inr (some 35))]) (w' := (SH, dt22)) rfl ?_
        refine go_callq PM32 PM22 (Q' := _) rfl rfl rfl rfl (sp_X1_skip_f L xs sio (d + 3) dt22 hI23 K V S t hz ht 41 ⟨by decide, by decide⟩ (by first | with_reducible assumption | exact unhid (by with_reducible assumption) | exact TKc_fr h_p0 hF25 (by decide) (by decide) (by decide) (by omega) | fail) (by first | with_reducible assumption | exact unhid (by with_reducible assumption) | exact TKc_fr h_p0 hF25 (by decide) (by decide) (by decide) (by fail) | fail) (by first | with_reducible assumption | exact unhid (by with_reducible assumption) | exact TKc_fr h_p0 hF25 (by decide) (by decide) (by decide) (by fail) | fail)) ?_
        rintro _ _ ⟨dt31, rfl, hI32, hF33, h30⟩
        refine ⟨rfl, ?_⟩
        have hF34 : Fr [35, 42] dt dt31 := Fr_tr hF25 hF33 (by decide)
        rcases h30 with ⟨rfl, h30⟩
        obtain ⟨h30_0, h30_1, h30_2, h30_3, h30_4, h30_5, h30_6⟩ := h30
        replace h30_2 := hid h30_2
        have X35 : PX S t (gC K V (j + 1)) gOk dt dt31 := PX_st X26 h30_0 (fun hl => by first | exact gB_id.symm | (exfalso; fail))
        have Q36 : QX (eC K V (j + 1)) eNl dt dt31 := QX_st Q27 (fun z_ => by have y_ := SPX_ok h30_0 (by first | with_reducible assumption | exact unhid (by with_reducible assumption) | fail) z_; first | exact y_.1 | fail) (by omega) (fun _ => CDX_sm (by omega) (fun j => hF33 42 (by decide) j)) (fun z_ => by have y_ := SPX_ok h30_0 (by first | with_reducible assumption | exact unhid (by with_reducible assumption) | fail) z_; (try rw [y_.2.2]); have hl := y_.2.1; first | done | (rfl))
        have ql37 := fun (z_ : dt31 35 2 = 0) => (SPX_ok h30_0 (by first | with_reducible assumption | exact unhid (by with_reducible assumption) | fail) z_).1
        replace ql37 := hid ql37
        have ql38 := hid (fun (z_ : dt31 35 2 = 0) => (Q36 z_).1)
        refine go_retq PM32 (k := 0) (r := none) (w1 := (SH, dt31)) rfl ?_
        exact ⟨dt31, rfl, hI32, hF34, ⟨rfl, ⟨by exact PX_e X35 (by omega), by first | exact True.intro | with_reducible assumption | exact unhid (by with_reducible assumption) | rfl | fail | trivial, by first | exact True.intro | with_reducible assumption | exact unhid (by with_reducible assumption) | rfl | fail | trivial, by first | exact True.intro | with_reducible assumption | exact unhid (by with_reducible assumption) | rfl | omega | trivial, by first | (intro z_; exfalso; fail) | exact QX_e Q36, by first | exact True.intro | with_reducible assumption | exact unhid (by with_reducible assumption) | rfl | (have z_ := unhid ql37; omega) | trivial, by first | exact True.intro | with_reducible assumption | exact unhid (by with_reducible assumption) | rfl | omega | trivial, by first | exact True.intro | with_reducible assumption | exact unhid (by with_reducible assumption) | rfl | omega | trivial⟩⟩⟩
      · skip
        refine go_toq PM32 (k := 2) (pc' := 115) (L' := [some (.inr (.inr (some 35))), some (.inl p1), some (.inl 0), none]) (st' := [.inl 3, .inr (.inr (some 35))]) (w' := (SH, dt)) rfl ?_
        refine go_callq PM32 PM21 (Q' := _) rfl rfl rfl rfl (sp_X1_fail_f L xs sio (d + 4) dt hI K V S t hz ht 3 ⟨by decide, by decide⟩ (by first | with_reducible assumption | exact unhid (by with_reducible assumption) | exact TKc_fr h_p0 hF (by decide) (by decide) (by decide) (by fail) | fail) (by first | with_reducible assumption | exact unhid (by with_reducible assumption) | exact TKc_fr h_p0 hF (by decide) (by decide) (by decide) (by fail) | fail) (by first | with_reducible assumption | exact unhid (by with_reducible assumption) | exact TKc_fr h_p0 hF (by decide) (by decide) (by decide) (by fail) | fail)) ?_
        rintro _ _ ⟨dt40, rfl, hI41, hF42, h39⟩
        refine ⟨rfl, ?_⟩
        have hF43 : Fr [35, 42] dt dt40 := Fr_tr hF hF42 (by decide)
        rcases h39 with ⟨rfl, h39⟩
        obtain ⟨h39_0, h39_1, h39_2, h39_3, h39_4, h39_5⟩ := h39
        replace h39_2 := hid h39_2
        have X44 : PX S t (gC K V (j + 1)) gOk dt dt40 := PX_st PX_0 h39_0 (fun hl => by first | exact (by exact gC_3 (by omega) : _ = ((3 : Int), (dt 35 8).toNat)).trans (gB_no (by show ¬ ((3 : Int) = 0); fail)).symm | (exfalso; omega))
        have Q45 : QX (eC K V (j + 1)) eNl dt dt40 := QX_no (by omega)
        have ql46 := hid (fun (z_ : dt40 35 2 = 0) => (Q45 z_).1)
        refine go_retq PM32 (k := 1) (r := none) (w1 := (SH, dt40)) rfl ?_
        exact ⟨dt40, rfl, hI41, hF43, ⟨rfl, ⟨by exact PX_e X44 (by omega), by first | exact True.intro | with_reducible assumption | exact unhid (by with_reducible assumption) | rfl | omega | trivial, by first | exact True.intro | with_reducible assumption | exact unhid (by with_reducible assumption) | rfl | omega | trivial, by first | exact True.intro | with_reducible assumption | exact unhid (by with_reducible assumption) | rfl | omega | trivial, by first | (intro z_; exfalso; omega) | exact QX_e Q45, by first | exact True.intro | with_reducible assumption | exact unhid (by with_reducible assumption) | rfl | omega | trivial, by first | exact True.intro | with_reducible assumption | exact unhid (by with_reducible assumption) | rfl | fail | trivial, by first | exact True.intro | with_reducible assumption | exact unhid (by with_reducible assumption) | rfl | fail | trivial⟩⟩⟩
    · skip
      replace c8 := hid c8
      refine go_toq PM32 (k := 1) (pc' := 30) (L' := [some (.inr (.inr (some 35))), some (.inl p1), some (.inl 0), none]) (st' := [.inr (.inr (some 35))]) (w' := (SH, dt)) rfl ?_
      refine go_callq PM32 PM33 (Q' := _) rfl rfl rfl rfl (sp_X1_sum_f L xs sio (d + 2) dt hI K V S t hz ht  (by first | with_reducible assumption | exact unhid (by with_reducible assumption) | exact TKc_fr h_p0 hF (by decide) (by decide) (by decide) (by fail) | fail) (by first | with_reducible assumption | exact unhid (by with_reducible assumption) | exact TKc_fr h_p0 hF (by decide) (by decide) (by decide) (by fail) | fail) (by first | with_reducible assumption | exact unhid (by with_reducible assumption) | exact TKc_fr h_p0 hF (by decide) (by decide) (by decide) (by fail) | fail) (by first | with_reducible assumption | exact unhid (by with_reducible assumption) | exact TKc_fr h_p0 hF (by decide) (by decide) (by decide) (by fail) | fail)) ?_
      rintro _ _ ⟨dt48, rfl, hI49, hF50, h47⟩
      refine ⟨rfl, ?_⟩
      have hF51 : Fr [35, 42] dt dt48 := Fr_tr hF hF50 (by decide)
      rcases h47 with ⟨rfl, h47⟩
      obtain ⟨h47_0, h47_1, h47_2, h47_3, h47_4, h47_5, h47_6, h47_7⟩ := h47
      replace h47_2 := hid h47_2
      replace h47_4 := hid h47_4
      replace h47_5 := hid h47_5
      have X52 : PX S t (gC K V (j + 1)) (gR1 K V) dt dt48 := PX_st PX_0 h47_0 (fun hl => by first | exact (gC_1 (by (have z_ := unhid c5; omega)) (by (have z_ := unhid c8; omega))).trans gC1_R | (exfalso; fail))
      have Q53 : QX (eC K V (j + 1)) (fun i => eE K V (i + 1) ++ [opc (K i)]) dt dt48 := QX_st QX_0 (fun z_ => by have y_ := SPX_ok h47_0 (by first | with_reducible assumption | exact unhid (by with_reducible assumption) | fail) z_; first | exact y_.1 | fail) (by omega) (fun z_ => h47_4 z_) (fun z_ => by have y_ := SPX_ok h47_0 (by first | with_reducible assumption | exact unhid (by with_reducible assumption) | fail) z_; (try rw [y_.2.2]); have hl := y_.2.1; first | done | (exact eC_1 (by (have z_ := unhid c5; omega)) (by (have z_ := unhid c8; omega))))
      have ql54 := fun (z_ : dt48 35 2 = 0) => (SPX_ok h47_0 (by first | with_reducible assumption | exact unhid (by with_reducible assumption) | fail) z_).1
      replace ql54 := hid ql54
      have ql55 := hid (fun (z_ : dt48 35 2 = 0) => (Q53 z_).1)
      refine go_toq PM32 (k := 1) (pc' := 34) (L' := [some (.inr (.inr (some 35))), some (.inl p1), some (.inl 0), none]) (st' := [.inr (.inr (some 35))]) (w' := (SH, dt48)) rfl ?_
      have v100_ := hid (And.intro (unhid h_p5) (And.intro (unhid hv0) (And.intro (unhid h47_2) (And.intro (unhid h47_5) (And.intro (unhid ql54) (unhid ql55))))))
      refine go_callq PM32 PM20 (Q' := _) rfl rfl rfl rfl (sp_X1_token_f L xs sio (d + 4) dt48 hI49 K V S t hz ht  (by first | with_reducible assumption | exact unhid (by with_reducible assumption) | exact TKc_fr h_p0 hF51 (by decide) (by decide) (by decide) (by omega) | fail) (by first | with_reducible assumption | exact unhid (by with_reducible assumption) | exact TKc_fr h_p0 hF51 (by decide) (by decide) (by decide) (by fail) | fail) (by first | with_reducible assumption | exact unhid (by with_reducible assumption) | exact TKc_fr h_p0 hF51 (by decide) (by decide) (by decide) (by fail) | fail)) ?_
      rintro _ _ ⟨rfl, h56⟩
      refine ⟨rfl, ?_⟩
      rcases h56 with ⟨v_h56, rfl, h56r, h56⟩
      refine go_ifq PM32 (k := 3) (p1 := 62) (p2 := 44) (L' := [some (.inr (.inr (some 35))), some (.inl p1), some (.inl 0), some (.inl v_h56)]) (st' := []) (w' := (SH, dt48)) rfl (c_eq (a := v_h56) (b := 60) (by first | exact bnd h56r (by decide) (by decide) | exact ⟨by fail, by fail⟩) ⟨by decide, by decide⟩) (fun c58 => ?_) (fun c58 => ?_)
      · skip
        refine go_toq PM32 (k := 5) (pc' := 69) (L' := [some (.inr (.inr (some 35))), some (.inl p1), some (.inl 0), some (.inl v_h56)]) (st' := [.inl ((dt48 35 8) + 1), .inr (.inr (some 35))]) (w' := (SH, dt48)) rfl ?_
        have hI59 : InvC (u2 dt48 35 8 ((dt48 35 8) + 1)) := InvC_u2 hI49 (lo := -2147483648) (hi := 2147483647) rfl rfl rfl (by omega) (by omega)
        have hF60 : Fr [35, 42] dt (u2 dt48 35 8 ((dt48 35 8) + 1)) := Fr_u2 hF51 (by decide)
        have w61 : (u2 dt48 35 8 ((dt48 35 8) + 1)) 35 1 = dt48 35 1 := rfl
        have w62 : (u2 dt48 35 8 ((dt48 35 8) + 1)) 35 2 = dt48 35 2 := rfl
        have w63 : (u2 dt48 35 8 ((dt48 35 8) + 1)) 35 3 = dt48 35 3 := rfl
        have w64 : (u2 dt48 35 8 ((dt48 35 8) + 1)) 35 7 = dt48 35 7 := rfl
        have w65 : (u2 dt48 35 8 ((dt48 35 8) + 1)) 35 8 = (dt48 35 8) + 1 := rfl
        have w66 : (u2 dt48 35 8 ((dt48 35 8) + 1)) 35 12 = dt48 35 12 := rfl
        have lv69 := KLIVE hz (D := dt48) (by omega) (by omega) (by (have z_ := unhid h47_2; omega))
        have X68 : PX S t (gC K V (j + 1)) (gE K V) dt (u2 dt48 35 8 ((dt48 35 8) + 1)) := PX_st X52 (SPX_inc hz (by omega) (by omega) (by omega) (by omega) (by omega)) (fun hl => by first | (show (gR1 K V) (dt48 35 8).toNat = (gE K V) ((dt48 35 8).toNat + 1); unfold gR1; rw [if_pos (by omega)]) | (exfalso; fail))
        refine go_smpq PM32 (L' := [some (.inr (.inr (some 35))), some (.inl p1), some (.inl 0), some (.inl v_h56)]) (st' := []) (w' := (SH, (u2 dt48 35 8 ((dt48 35 8) + 1)))) rfl rfl (s_pf rfl rfl rfl rfl ⟨by omega, by omega⟩) ?_
        refine go_toq PM32 (k := 1) (pc' := 73) (L' := [some (.inr (.inr (some 35))), some (.inl p1), some (.inl 0), some (.inl v_h56)]) (st' := [.inr (.inr (some 35))]) (w' := (SH, (u2 dt48 35 8 ((dt48 35 8) + 1)))) rfl ?_
        refine go_callq PM32 PM33 (Q' := _) rfl rfl rfl rfl (sp_X1_sum_f L xs sio (d + 2) (u2 dt48 35 8 ((dt48 35 8) + 1)) hI59 K V S t hz ht  (by first | with_reducible assumption | exact unhid (by with_reducible assumption) | exact TKc_fr h_p0 hF60 (by decide) (by decide) (by decide) (by omega) | fail) (by first | with_reducible assumption | exact unhid (by with_reducible assumption) | exact TKc_fr h_p0 hF60 (by decide) (by decide) (by decide) (by omega) | omega) (by first | with_reducible assumption | exact unhid (by with_reducible assumption) | exact TKc_fr h_p0 hF60 (by decide) (by decide) (by decide) (by omega) | omega) (by first | with_reducible assumption | exact unhid (by with_reducible assumption) | exact TKc_fr h_p0 hF60 (by decide) (by decide) (by decide) (by omega) | (have z_ := unhid v100_; omega))) ?_
        rintro _ _ ⟨dt71, rfl, hI72, hF73, h70⟩
        refine ⟨rfl, ?_⟩
        have hF74 : Fr [35, 42] dt dt71 := Fr_tr hF60 hF73 (by decide)
        rcases h70 with ⟨rfl, h70⟩
        obtain ⟨h70_0, h70_1, h70_2, h70_3, h70_4, h70_5, h70_6, h70_7⟩ := h70
        replace h70_2 := hid h70_2
        replace h70_4 := hid h70_4
        replace h70_5 := hid h70_5
        have X75 : PX S t (gC K V (j + 1)) gOk dt dt71 := PX_st X68 h70_0 (fun hl => by first | exact gB_id.symm | (exfalso; fail))
        have Q76 : QX (eC K V (j + 1)) (fun _ => [opc (K (dt48 35 8).toNat)]) dt dt71 := QX_st Q53 (fun z_ => by have y_ := SPX_ok h70_0 (by first | with_reducible assumption | exact unhid (by with_reducible assumption) | omega) z_; first | exact y_.1 | fail) (by omega) (fun z_ => CDX_l (D' := (u2 dt48 35 8 ((dt48 35 8) + 1))) rfl (fun j => u2_ne (by omega)) ((fun z_ => h70_4 z_) z_)) (fun z_ => by have y_ := SPX_ok h70_0 (by first | with_reducible assumption | exact unhid (by with_reducible assumption) | omega) z_; (try rw [y_.2.2]); have hl := y_.2.1; rw [show ((u2 dt48 35 8 ((dt48 35 8) + 1)) 35 8).toNat = (dt48 35 8).toNat + 1 by first | with_reducible assumption | exact unhid (by with_reducible assumption) | omega] at hl ⊢; first | done | (rfl))
        have ql77 := fun (z_ : dt71 35 2 = 0) => (SPX_ok h70_0 (by first | with_reducible assumption | exact unhid (by with_reducible assumption) | omega) z_).1
        replace ql77 := hid ql77
        have ql78 := hid (fun (z_ : dt71 35 2 = 0) => (Q76 z_).1)
        refine go_ifq PM32 (k := 3) (p1 := 88) (p2 := 83) (L' := [some (.inr (.inr (some 35))), some (.inl p1), some (.inl 0), some (.inl v_h56)]) (st' := [.inr (.inr (some 35))]) (w' := (SH, dt71)) rfl (c_ne (a := v_h56) (b := 60) (by first | exact bnd h56r (by decide) (by decide) | exact ⟨by fail, by fail⟩) ⟨by decide, by decide⟩) (fun c79 => ?_) (fun c79 => ?_)
        · skip
          replace c79 := hid c79
          refine go_ifq PM32 (k := 2) (p1 := 99) (p2 := 94) (L' := [some (.inr (.inr (some 35))), some (.inl p1), some (.inl 0), some (.inl v_h56)]) (st' := [.inr (.inr (some 35))]) (w' := (SH, dt71)) rfl (c_ne (a := v_h56) (b := 61) (by first | exact bnd h56r (by decide) (by decide) | exact ⟨by fail, by fail⟩) ⟨by decide, by decide⟩) (fun c80 => ?_) (fun c80 => ?_)
          · skip
            replace c80 := hid c80
            refine go_toq PM32 (k := 1) (pc' := 101) (L' := [some (.inr (.inr (some 35))), some (.inl p1), some (.inl 0), some (.inl v_h56)]) (st' := [.inl (-7), .inr (.inr (some 35))]) (w' := (SH, dt71)) rfl ?_
            refine go_callq PM32 PM30 (Q' := _) rfl rfl rfl rfl (sp_X1_emit_f L xs sio (d + 4) dt71 hI72  (-7) ⟨by decide, by decide⟩ ) ?_
            rintro _ _ ⟨dt82, rfl, hI83, hF84, h81⟩
            refine ⟨rfl, ?_⟩
            have hF85 : Fr [35, 42] dt dt82 := Fr_tr hF74 hF84 (by decide)
            rcases h81 with ⟨rfl, h81⟩
            obtain ⟨h81_0, h81_1, h81_2, h81_3, h81_4, h81_5, h81_6⟩ := h81
            replace h81_0 := hid h81_0
            replace h81_1 := hid h81_1
            have X86 : PX S t (gC K V (j + 1)) gOk dt dt82 := PX_sm X75 (by omega) (by omega) (by omega)
            have ek87 : (dt82 35 8).toNat = (dt71 35 8).toNat := by omega
            have kk88 : K (dt82 35 8).toNat = K (dt71 35 8).toNat := congrArg K ek87
            have kk89 : V (dt82 35 8).toNat = V (dt71 35 8).toNat := congrArg V ek87
            have Q90 : QX (eC K V (j + 1)) eNl dt dt82 := QX_st Q76 (fun z_ => by omega) (by omega) (fun z_ => h81_0 (by (have z_ := unhid c79; omega))) (fun z_ => by (try rw [show (dt82 35 8).toNat = (dt71 35 8).toNat by first | with_reducible assumption | exact unhid (by with_reducible assumption) | fail]); first | done | (show [opc (K (dt48 35 8).toNat)] = [(-7)] ++ []; unfold opc; first | (rw [if_pos (by omega)]; rfl) | (rw [if_neg (by (have z_ := unhid c79; omega)), if_pos (by (have z_ := unhid c79; omega))]; rfl) | (rw [if_neg (by (have z_ := unhid c79; omega)), if_neg (by omega)]; rfl)))
            have ql91 := hid (fun (z_ : dt82 35 2 = 0) => (Q90 z_).1)
            refine go_retq PM32 (k := 1) (r := none) (w1 := (SH, dt82)) rfl ?_
            exact ⟨dt82, rfl, hI83, hF85, ⟨rfl, ⟨by exact PX_e X86 (by omega), by first | exact True.intro | with_reducible assumption | exact unhid (by with_reducible assumption) | rfl | omega | trivial, by first | exact True.intro | with_reducible assumption | exact unhid (by with_reducible assumption) | rfl | (have z_ := unhid h70_2; omega) | trivial, by first | exact True.intro | with_reducible assumption | exact unhid (by with_reducible assumption) | rfl | omega | trivial, by first | (intro z_; exfalso; (have z_ := unhid c79; omega)) | exact QX_e Q90, by first | exact True.intro | with_reducible assumption | exact unhid (by with_reducible assumption) | rfl | (have z_ := unhid c79; omega) | trivial, by first | exact True.intro | with_reducible assumption | exact unhid (by with_reducible assumption) | rfl | omega | trivial, by first | exact True.intro | with_reducible assumption | exact unhid (by with_reducible assumption) | rfl | omega | trivial⟩⟩⟩
          · exfalso; omega
        · skip
          refine go_toq PM32 (k := 2) (pc' := 101) (L' := [some (.inr (.inr (some 35))), some (.inl p1), some (.inl 0), some (.inl v_h56)]) (st' := [.inl (-5), .inr (.inr (some 35))]) (w' := (SH, dt71)) rfl ?_
          refine go_callq PM32 PM30 (Q' := _) rfl rfl rfl rfl (sp_X1_emit_f L xs sio (d + 4) dt71 hI72  (-5) ⟨by decide, by decide⟩ ) ?_
          rintro _ _ ⟨dt93, rfl, hI94, hF95, h92⟩
          refine ⟨rfl, ?_⟩
          have hF96 : Fr [35, 42] dt dt93 := Fr_tr hF74 hF95 (by decide)
          rcases h92 with ⟨rfl, h92⟩
          obtain ⟨h92_0, h92_1, h92_2, h92_3, h92_4, h92_5, h92_6⟩ := h92
          replace h92_0 := hid h92_0
          replace h92_1 := hid h92_1
          have u110_ := hid (And.intro (unhid h_p2) (And.intro (unhid h_p5) (And.intro (unhid hv0) (And.intro (unhid c5) (And.intro (unhid c8) (And.intro (unhid h47_2) (And.intro (unhid h47_5) (And.intro (unhid ql54) (And.intro (unhid ql55) (And.intro (unhid h70_2) (And.intro (unhid h70_5) (And.intro (unhid ql77) (And.intro (unhid ql78) (unhid h92_1))))))))))))))
          have X97 : PX S t (gC K V (j + 1)) gOk dt dt93 := PX_sm X75 (by omega) (by omega) (by omega)
          have ek98 : (dt93 35 8).toNat = (dt71 35 8).toNat := by omega
          have kk99 : K (dt93 35 8).toNat = K (dt71 35 8).toNat := congrArg K ek98
          have kk100 : V (dt93 35 8).toNat = V (dt71 35 8).toNat := congrArg V ek98
          have Q101 : QX (eC K V (j + 1)) eNl dt dt93 := QX_st Q76 (fun z_ => by omega) (by omega) (fun z_ => h92_0 (by (have z_ := unhid u110_; omega))) (fun z_ => by (try rw [show (dt93 35 8).toNat = (dt71 35 8).toNat by first | with_reducible assumption | exact unhid (by with_reducible assumption) | fail]); first | done | (show [opc (K (dt48 35 8).toNat)] = [(-5)] ++ []; unfold opc; first | (rw [if_pos (by omega)]; rfl) | (rw [if_neg (by fail), if_pos (by fail)]; rfl) | (rw [if_neg (by fail), if_neg (by fail)]; rfl)))
          have ql102 := hid (fun (z_ : dt93 35 2 = 0) => (Q101 z_).1)
          refine go_retq PM32 (k := 1) (r := none) (w1 := (SH, dt93)) rfl ?_
          have u112_ := hid (And.intro (unhid h_p2) (And.intro (unhid h_p5) (And.intro (unhid hv0) (And.intro (unhid c5) (And.intro (unhid c8) (And.intro (unhid h47_2) (And.intro (unhid h47_5) (And.intro (unhid ql54) (And.intro (unhid ql55) (And.intro (unhid h70_2) (And.intro (unhid h70_5) (And.intro (unhid ql77) (And.intro (unhid ql78) (And.intro (unhid h92_1) (unhid ql102)))))))))))))))
          exact ⟨dt93, rfl, hI94, hF96, ⟨rfl, ⟨by exact PX_e X97 (by omega), by first | exact True.intro | with_reducible assumption | exact unhid (by with_reducible assumption) | rfl | omega | trivial, by first | exact True.intro | with_reducible assumption | exact unhid (by with_reducible assumption) | rfl | (have z_ := unhid h70_2; omega) | trivial, by first | exact True.intro | with_reducible assumption | exact unhid (by with_reducible assumption) | rfl | omega | trivial, by first | (intro z_; exfalso; fail) | exact QX_e Q101, by first | exact True.intro | with_reducible assumption | exact unhid (by with_reducible assumption) | rfl | (have z_ := unhid u112_; omega) | trivial, by first | exact True.intro | with_reducible assumption | exact unhid (by with_reducible assumption) | rfl | omega | trivial, by first | exact True.intro | with_reducible assumption | exact unhid (by with_reducible assumption) | rfl | omega | trivial⟩⟩⟩
      · skip
        replace c58 := hid c58
        refine go_ifq PM32 (k := 2) (p1 := 62) (p2 := 50) (L' := [some (.inr (.inr (some 35))), some (.inl p1), some (.inl 0), some (.inl v_h56)]) (st' := []) (w' := (SH, dt48)) rfl (c_eq (a := v_h56) (b := 61) (by first | exact bnd h56r (by decide) (by decide) | exact ⟨by fail, by fail⟩) ⟨by decide, by decide⟩) (fun c103 => ?_) (fun c103 => ?_)
        · skip
          refine go_toq PM32 (k := 5) (pc' := 69) (L' := [some (.inr (.inr (some 35))), some (.inl p1), some (.inl 0), some (.inl v_h56)]) (st' := [.inl ((dt48 35 8) + 1), .inr (.inr (some 35))]) (w' := (SH, dt48)) rfl ?_
          have hI104 : InvC (u2 dt48 35 8 ((dt48 35 8) + 1)) := InvC_u2 hI49 (lo := -2147483648) (hi := 2147483647) rfl rfl rfl (by omega) (by omega)
          have hF105 : Fr [35, 42] dt (u2 dt48 35 8 ((dt48 35 8) + 1)) := Fr_u2 hF51 (by decide)
          have w106 : (u2 dt48 35 8 ((dt48 35 8) + 1)) 35 1 = dt48 35 1 := rfl
          have w107 : (u2 dt48 35 8 ((dt48 35 8) + 1)) 35 2 = dt48 35 2 := rfl
          have w108 : (u2 dt48 35 8 ((dt48 35 8) + 1)) 35 3 = dt48 35 3 := rfl
          have w109 : (u2 dt48 35 8 ((dt48 35 8) + 1)) 35 7 = dt48 35 7 := rfl
          have w110 : (u2 dt48 35 8 ((dt48 35 8) + 1)) 35 8 = (dt48 35 8) + 1 := rfl
          have w111 : (u2 dt48 35 8 ((dt48 35 8) + 1)) 35 12 = dt48 35 12 := rfl
          have lv114 := KLIVE hz (D := dt48) (by omega) (by omega) (by (have z_ := unhid h47_2; omega))
          have X113 : PX S t (gC K V (j + 1)) (gE K V) dt (u2 dt48 35 8 ((dt48 35 8) + 1)) := PX_st X52 (SPX_inc hz (by omega) (by omega) (by omega) (by omega) (by omega)) (fun hl => by first | (show (gR1 K V) (dt48 35 8).toNat = (gE K V) ((dt48 35 8).toNat + 1); unfold gR1; rw [if_pos (by omega)]) | (exfalso; fail))
          refine go_smpq PM32 (L' := [some (.inr (.inr (some 35))), some (.inl p1), some (.inl 0), some (.inl v_h56)]) (st' := []) (w' := (SH, (u2 dt48 35 8 ((dt48 35 8) + 1)))) rfl rfl (s_pf rfl rfl rfl rfl ⟨by omega, by omega⟩) ?_
          refine go_toq PM32 (k := 1) (pc' := 73) (L' := [some (.inr (.inr (some 35))), some (.inl p1), some (.inl 0), some (.inl v_h56)]) (st' := [.inr (.inr (some 35))]) (w' := (SH, (u2 dt48 35 8 ((dt48 35 8) + 1)))) rfl ?_
          refine go_callq PM32 PM33 (Q' := _) rfl rfl rfl rfl (sp_X1_sum_f L xs sio (d + 2) (u2 dt48 35 8 ((dt48 35 8) + 1)) hI104 K V S t hz ht  (by first | with_reducible assumption | exact unhid (by with_reducible assumption) | exact TKc_fr h_p0 hF105 (by decide) (by decide) (by decide) (by omega) | fail) (by first | with_reducible assumption | exact unhid (by with_reducible assumption) | exact TKc_fr h_p0 hF105 (by decide) (by decide) (by decide) (by omega) | omega) (by first | with_reducible assumption | exact unhid (by with_reducible assumption) | exact TKc_fr h_p0 hF105 (by decide) (by decide) (by decide) (by omega) | omega) (by first | with_reducible assumption | exact unhid (by with_reducible assumption) | exact TKc_fr h_p0 hF105 (by decide) (by decide) (by decide) (by omega) | (have z_ := unhid v100_; omega))) ?_
          rintro _ _ ⟨dt116, rfl, hI117, hF118, h115⟩
          refine ⟨rfl, ?_⟩
          have hF119 : Fr [35, 42] dt dt116 := Fr_tr hF105 hF118 (by decide)
          rcases h115 with ⟨rfl, h115⟩
          obtain ⟨h115_0, h115_1, h115_2, h115_3, h115_4, h115_5, h115_6, h115_7⟩ := h115
          replace h115_2 := hid h115_2
          replace h115_4 := hid h115_4
          replace h115_5 := hid h115_5
          have X120 : PX S t (gC K V (j + 1)) gOk dt dt116 := PX_st X113 h115_0 (fun hl => by first | exact gB_id.symm | (exfalso; fail))
          have Q121 : QX (eC K V (j + 1)) (fun _ => [opc (K (dt48 35 8).toNat)]) dt dt116 := QX_st Q53 (fun z_ => by have y_ := SPX_ok h115_0 (by first | with_reducible assumption | exact unhid (by with_reducible assumption) | omega) z_; first | exact y_.1 | fail) (by omega) (fun z_ => CDX_l (D' := (u2 dt48 35 8 ((dt48 35 8) + 1))) rfl (fun j => u2_ne (by omega)) ((fun z_ => h115_4 z_) z_)) (fun z_ => by have y_ := SPX_ok h115_0 (by first | with_reducible assumption | exact unhid (by with_reducible assumption) | omega) z_; (try rw [y_.2.2]); have hl := y_.2.1; rw [show ((u2 dt48 35 8 ((dt48 35 8) + 1)) 35 8).toNat = (dt48 35 8).toNat + 1 by first | with_reducible assumption | exact unhid (by with_reducible assumption) | omega] at hl ⊢; first | done | (rfl))
          have ql122 := fun (z_ : dt116 35 2 = 0) => (SPX_ok h115_0 (by first | with_reducible assumption | exact unhid (by with_reducible assumption) | omega) z_).1
          replace ql122 := hid ql122
          have ql123 := hid (fun (z_ : dt116 35 2 = 0) => (Q121 z_).1)
          refine go_ifq PM32 (k := 3) (p1 := 88) (p2 := 83) (L' := [some (.inr (.inr (some 35))), some (.inl p1), some (.inl 0), some (.inl v_h56)]) (st' := [.inr (.inr (some 35))]) (w' := (SH, dt116)) rfl (c_ne (a := v_h56) (b := 60) (by first | exact bnd h56r (by decide) (by decide) | exact ⟨by fail, by fail⟩) ⟨by decide, by decide⟩) (fun c124 => ?_) (fun c124 => ?_)
          · skip
            replace c124 := hid c124
            refine go_ifq PM32 (k := 2) (p1 := 99) (p2 := 94) (L' := [some (.inr (.inr (some 35))), some (.inl p1), some (.inl 0), some (.inl v_h56)]) (st' := [.inr (.inr (some 35))]) (w' := (SH, dt116)) rfl (c_ne (a := v_h56) (b := 61) (by first | exact bnd h56r (by decide) (by decide) | exact ⟨by fail, by fail⟩) ⟨by decide, by decide⟩) (fun c125 => ?_) (fun c125 => ?_)
            · skip
              replace c125 := hid c125
              refine go_toq PM32 (k := 1) (pc' := 101) (L' := [some (.inr (.inr (some 35))), some (.inl p1), some (.inl 0), some (.inl v_h56)]) (st' := [.inl (-7), .inr (.inr (some 35))]) (w' := (SH, dt116)) rfl ?_
              refine go_callq PM32 PM30 (Q' := _) rfl rfl rfl rfl (sp_X1_emit_f L xs sio (d + 4) dt116 hI117  (-7) ⟨by decide, by decide⟩ ) ?_
              rintro _ _ ⟨dt127, rfl, hI128, hF129, h126⟩
              refine ⟨rfl, ?_⟩
              have hF130 : Fr [35, 42] dt dt127 := Fr_tr hF119 hF129 (by decide)
              rcases h126 with ⟨rfl, h126⟩
              obtain ⟨h126_0, h126_1, h126_2, h126_3, h126_4, h126_5, h126_6⟩ := h126
              replace h126_0 := hid h126_0
              replace h126_1 := hid h126_1
              have X131 : PX S t (gC K V (j + 1)) gOk dt dt127 := PX_sm X120 (by omega) (by omega) (by omega)
              have ek132 : (dt127 35 8).toNat = (dt116 35 8).toNat := by omega
              have kk133 : K (dt127 35 8).toNat = K (dt116 35 8).toNat := congrArg K ek132
              have kk134 : V (dt127 35 8).toNat = V (dt116 35 8).toNat := congrArg V ek132
              have Q135 : QX (eC K V (j + 1)) eNl dt dt127 := QX_st Q121 (fun z_ => by omega) (by omega) (fun z_ => h126_0 (by (have z_ := unhid c125; omega))) (fun z_ => by (try rw [show (dt127 35 8).toNat = (dt116 35 8).toNat by first | with_reducible assumption | exact unhid (by with_reducible assumption) | fail]); first | done | (show [opc (K (dt48 35 8).toNat)] = [(-7)] ++ []; unfold opc; first | (rw [if_pos (by (have z_ := unhid c125; omega))]; rfl) | (rw [if_neg (by omega), if_pos (by omega)]; rfl) | (rw [if_neg (by omega), if_neg (by (have z_ := unhid c125; omega))]; rfl)))
              have ql136 := hid (fun (z_ : dt127 35 2 = 0) => (Q135 z_).1)
              refine go_retq PM32 (k := 1) (r := none) (w1 := (SH, dt127)) rfl ?_
              exact ⟨dt127, rfl, hI128, hF130, ⟨rfl, ⟨by exact PX_e X131 (by omega), by first | exact True.intro | with_reducible assumption | exact unhid (by with_reducible assumption) | rfl | omega | trivial, by first | exact True.intro | with_reducible assumption | exact unhid (by with_reducible assumption) | rfl | (have z_ := unhid h115_2; omega) | trivial, by first | exact True.intro | with_reducible assumption | exact unhid (by with_reducible assumption) | rfl | omega | trivial, by first | (intro z_; exfalso; (have z_ := unhid c125; omega)) | exact QX_e Q135, by first | exact True.intro | with_reducible assumption | exact unhid (by with_reducible assumption) | rfl | (have z_ := unhid c125; omega) | trivial, by first | exact True.intro | with_reducible assumption | exact unhid (by with_reducible assumption) | rfl | omega | trivial, by first | exact True.intro | with_reducible assumption | exact unhid (by with_reducible assumption) | rfl | omega | trivial⟩⟩⟩
            · skip
              refine go_toq PM32 (k := 2) (pc' := 101) (L' := [some (.inr (.inr (some 35))), some (.inl p1), some (.inl 0), some (.inl v_h56)]) (st' := [.inl (-6), .inr (.inr (some 35))]) (w' := (SH, dt116)) rfl ?_
              refine go_callq PM32 PM30 (Q' := _) rfl rfl rfl rfl (sp_X1_emit_f L xs sio (d + 4) dt116 hI117  (-6) ⟨by decide, by decide⟩ ) ?_
              rintro _ _ ⟨dt138, rfl, hI139, hF140, h137⟩
              refine ⟨rfl, ?_⟩
              have hF141 : Fr [35, 42] dt dt138 := Fr_tr hF119 hF140 (by decide)
              rcases h137 with ⟨rfl, h137⟩
              obtain ⟨h137_0, h137_1, h137_2, h137_3, h137_4, h137_5, h137_6⟩ := h137
              replace h137_0 := hid h137_0
              replace h137_1 := hid h137_1
              have u124_ := hid (And.intro (unhid h_p2) (And.intro (unhid h_p5) (And.intro (unhid hv0) (And.intro (unhid c5) (And.intro (unhid c8) (And.intro (unhid h47_2) (And.intro (unhid h47_5) (And.intro (unhid ql54) (And.intro (unhid ql55) (And.intro (unhid c58) (And.intro (unhid h115_2) (And.intro (unhid h115_5) (And.intro (unhid ql122) (And.intro (unhid ql123) (And.intro (unhid c124) (unhid h137_1))))))))))))))))
              have X142 : PX S t (gC K V (j + 1)) gOk dt dt138 := PX_sm X120 (by omega) (by omega) (by omega)
              have ek143 : (dt138 35 8).toNat = (dt116 35 8).toNat := by omega
              have kk144 : K (dt138 35 8).toNat = K (dt116 35 8).toNat := congrArg K ek143
              have kk145 : V (dt138 35 8).toNat = V (dt116 35 8).toNat := congrArg V ek143
              have Q146 : QX (eC K V (j + 1)) eNl dt dt138 := QX_st Q121 (fun z_ => by omega) (by omega) (fun z_ => h137_0 (by (have z_ := unhid u124_; omega))) (fun z_ => by (try rw [show (dt138 35 8).toNat = (dt116 35 8).toNat by first | with_reducible assumption | exact unhid (by with_reducible assumption) | fail]); first | done | (show [opc (K (dt48 35 8).toNat)] = [(-6)] ++ []; unfold opc; first | (rw [if_pos (by fail)]; rfl) | (rw [if_neg (by omega), if_pos (by omega)]; rfl) | (rw [if_neg (by fail), if_neg (by fail)]; rfl)))
              have ql147 := hid (fun (z_ : dt138 35 2 = 0) => (Q146 z_).1)
              refine go_retq PM32 (k := 1) (r := none) (w1 := (SH, dt138)) rfl ?_
              have u126_ := hid (And.intro (unhid h_p2) (And.intro (unhid h_p5) (And.intro (unhid hv0) (And.intro (unhid c5) (And.intro (unhid c8) (And.intro (unhid h47_2) (And.intro (unhid h47_5) (And.intro (unhid ql54) (And.intro (unhid ql55) (And.intro (unhid c58) (And.intro (unhid h115_2) (And.intro (unhid h115_5) (And.intro (unhid ql122) (And.intro (unhid ql123) (And.intro (unhid c124) (And.intro (unhid h137_1) (unhid ql147)))))))))))))))))
              exact ⟨dt138, rfl, hI139, hF141, ⟨rfl, ⟨by exact PX_e X142 (by omega), by first | exact True.intro | with_reducible assumption | exact unhid (by with_reducible assumption) | rfl | omega | trivial, by first | exact True.intro | with_reducible assumption | exact unhid (by with_reducible assumption) | rfl | (have z_ := unhid h115_2; omega) | trivial, by first | exact True.intro | with_reducible assumption | exact unhid (by with_reducible assumption) | rfl | omega | trivial, by first | (intro z_; exfalso; fail) | exact QX_e Q146, by first | exact True.intro | with_reducible assumption | exact unhid (by with_reducible assumption) | rfl | (have z_ := unhid u126_; omega) | trivial, by first | exact True.intro | with_reducible assumption | exact unhid (by with_reducible assumption) | rfl | omega | trivial, by first | exact True.intro | with_reducible assumption | exact unhid (by with_reducible assumption) | rfl | omega | trivial⟩⟩⟩
          · exfalso; omega
        · skip
          replace c103 := hid c103
          refine go_ifq PM32 (k := 2) (p1 := 62) (p2 := 56) (L' := [some (.inr (.inr (some 35))), some (.inl p1), some (.inl 0), some (.inl v_h56)]) (st' := []) (w' := (SH, dt48)) rfl (c_eq (a := v_h56) (b := 62) (by first | exact bnd h56r (by decide) (by decide) | exact ⟨by fail, by fail⟩) ⟨by decide, by decide⟩) (fun c148 => ?_) (fun c148 => ?_)
          · skip
            refine go_toq PM32 (k := 5) (pc' := 69) (L' := [some (.inr (.inr (some 35))), some (.inl p1), some (.inl 0), some (.inl v_h56)]) (st' := [.inl ((dt48 35 8) + 1), .inr (.inr (some 35))]) (w' := (SH, dt48)) rfl ?_
            have hI149 : InvC (u2 dt48 35 8 ((dt48 35 8) + 1)) := InvC_u2 hI49 (lo := -2147483648) (hi := 2147483647) rfl rfl rfl (by omega) (by omega)
            have hF150 : Fr [35, 42] dt (u2 dt48 35 8 ((dt48 35 8) + 1)) := Fr_u2 hF51 (by decide)
            have w151 : (u2 dt48 35 8 ((dt48 35 8) + 1)) 35 1 = dt48 35 1 := rfl
            have w152 : (u2 dt48 35 8 ((dt48 35 8) + 1)) 35 2 = dt48 35 2 := rfl
            have w153 : (u2 dt48 35 8 ((dt48 35 8) + 1)) 35 3 = dt48 35 3 := rfl
            have w154 : (u2 dt48 35 8 ((dt48 35 8) + 1)) 35 7 = dt48 35 7 := rfl
            have w155 : (u2 dt48 35 8 ((dt48 35 8) + 1)) 35 8 = (dt48 35 8) + 1 := rfl
            have w156 : (u2 dt48 35 8 ((dt48 35 8) + 1)) 35 12 = dt48 35 12 := rfl
            have lv159 := KLIVE hz (D := dt48) (by omega) (by omega) (by (have z_ := unhid h47_2; omega))
            have X158 : PX S t (gC K V (j + 1)) (gE K V) dt (u2 dt48 35 8 ((dt48 35 8) + 1)) := PX_st X52 (SPX_inc hz (by omega) (by omega) (by omega) (by omega) (by omega)) (fun hl => by first | (show (gR1 K V) (dt48 35 8).toNat = (gE K V) ((dt48 35 8).toNat + 1); unfold gR1; rw [if_pos (by omega)]) | (exfalso; fail))
            refine go_smpq PM32 (L' := [some (.inr (.inr (some 35))), some (.inl p1), some (.inl 0), some (.inl v_h56)]) (st' := []) (w' := (SH, (u2 dt48 35 8 ((dt48 35 8) + 1)))) rfl rfl (s_pf rfl rfl rfl rfl ⟨by omega, by omega⟩) ?_
            refine go_toq PM32 (k := 1) (pc' := 73) (L' := [some (.inr (.inr (some 35))), some (.inl p1), some (.inl 0), some (.inl v_h56)]) (st' := [.inr (.inr (some 35))]) (w' := (SH, (u2 dt48 35 8 ((dt48 35 8) + 1)))) rfl ?_
            refine go_callq PM32 PM33 (Q' := _) rfl rfl rfl rfl (sp_X1_sum_f L xs sio (d + 2) (u2 dt48 35 8 ((dt48 35 8) + 1)) hI149 K V S t hz ht  (by first | with_reducible assumption | exact unhid (by with_reducible assumption) | exact TKc_fr h_p0 hF150 (by decide) (by decide) (by decide) (by omega) | fail) (by first | with_reducible assumption | exact unhid (by with_reducible assumption) | exact TKc_fr h_p0 hF150 (by decide) (by decide) (by decide) (by omega) | omega) (by first | with_reducible assumption | exact unhid (by with_reducible assumption) | exact TKc_fr h_p0 hF150 (by decide) (by decide) (by decide) (by omega) | omega) (by first | with_reducible assumption | exact unhid (by with_reducible assumption) | exact TKc_fr h_p0 hF150 (by decide) (by decide) (by decide) (by omega) | (have z_ := unhid v100_; omega))) ?_
            rintro _ _ ⟨dt161, rfl, hI162, hF163, h160⟩
            refine ⟨rfl, ?_⟩
            have hF164 : Fr [35, 42] dt dt161 := Fr_tr hF150 hF163 (by decide)
            rcases h160 with ⟨rfl, h160⟩
            obtain ⟨h160_0, h160_1, h160_2, h160_3, h160_4, h160_5, h160_6, h160_7⟩ := h160
            replace h160_2 := hid h160_2
            replace h160_4 := hid h160_4
            replace h160_5 := hid h160_5
            have X165 : PX S t (gC K V (j + 1)) gOk dt dt161 := PX_st X158 h160_0 (fun hl => by first | exact gB_id.symm | (exfalso; fail))
            have Q166 : QX (eC K V (j + 1)) (fun _ => [opc (K (dt48 35 8).toNat)]) dt dt161 := QX_st Q53 (fun z_ => by have y_ := SPX_ok h160_0 (by first | with_reducible assumption | exact unhid (by with_reducible assumption) | omega) z_; first | exact y_.1 | fail) (by omega) (fun z_ => CDX_l (D' := (u2 dt48 35 8 ((dt48 35 8) + 1))) rfl (fun j => u2_ne (by omega)) ((fun z_ => h160_4 z_) z_)) (fun z_ => by have y_ := SPX_ok h160_0 (by first | with_reducible assumption | exact unhid (by with_reducible assumption) | omega) z_; (try rw [y_.2.2]); have hl := y_.2.1; rw [show ((u2 dt48 35 8 ((dt48 35 8) + 1)) 35 8).toNat = (dt48 35 8).toNat + 1 by first | with_reducible assumption | exact unhid (by with_reducible assumption) | omega] at hl ⊢; first | done | (rfl))
            have ql167 := fun (z_ : dt161 35 2 = 0) => (SPX_ok h160_0 (by first | with_reducible assumption | exact unhid (by with_reducible assumption) | omega) z_).1
            replace ql167 := hid ql167
            have ql168 := hid (fun (z_ : dt161 35 2 = 0) => (Q166 z_).1)
            refine go_ifq PM32 (k := 3) (p1 := 88) (p2 := 83) (L' := [some (.inr (.inr (some 35))), some (.inl p1), some (.inl 0), some (.inl v_h56)]) (st' := [.inr (.inr (some 35))]) (w' := (SH, dt161)) rfl (c_ne (a := v_h56) (b := 60) (by first | exact bnd h56r (by decide) (by decide) | exact ⟨by fail, by fail⟩) ⟨by decide, by decide⟩) (fun c169 => ?_) (fun c169 => ?_)
            · skip
              replace c169 := hid c169
              refine go_ifq PM32 (k := 2) (p1 := 99) (p2 := 94) (L' := [some (.inr (.inr (some 35))), some (.inl p1), some (.inl 0), some (.inl v_h56)]) (st' := [.inr (.inr (some 35))]) (w' := (SH, dt161)) rfl (c_ne (a := v_h56) (b := 61) (by first | exact bnd h56r (by decide) (by decide) | exact ⟨by fail, by fail⟩) ⟨by decide, by decide⟩) (fun c170 => ?_) (fun c170 => ?_)
              · skip
                replace c170 := hid c170
                refine go_toq PM32 (k := 1) (pc' := 101) (L' := [some (.inr (.inr (some 35))), some (.inl p1), some (.inl 0), some (.inl v_h56)]) (st' := [.inl (-7), .inr (.inr (some 35))]) (w' := (SH, dt161)) rfl ?_
                refine go_callq PM32 PM30 (Q' := _) rfl rfl rfl rfl (sp_X1_emit_f L xs sio (d + 4) dt161 hI162  (-7) ⟨by decide, by decide⟩ ) ?_
                rintro _ _ ⟨dt172, rfl, hI173, hF174, h171⟩
                refine ⟨rfl, ?_⟩
                have hF175 : Fr [35, 42] dt dt172 := Fr_tr hF164 hF174 (by decide)
                rcases h171 with ⟨rfl, h171⟩
                obtain ⟨h171_0, h171_1, h171_2, h171_3, h171_4, h171_5, h171_6⟩ := h171
                replace h171_0 := hid h171_0
                replace h171_1 := hid h171_1
                have u134_ := hid (And.intro (unhid h_p2) (And.intro (unhid h_p5) (And.intro (unhid hv0) (And.intro (unhid c5) (And.intro (unhid c8) (And.intro (unhid h47_2) (And.intro (unhid h47_5) (And.intro (unhid ql54) (And.intro (unhid ql55) (And.intro (unhid c58) (And.intro (unhid c103) (And.intro (unhid h160_2) (And.intro (unhid h160_5) (And.intro (unhid ql167) (And.intro (unhid ql168) (And.intro (unhid c169) (And.intro (unhid c170) (unhid h171_1))))))))))))))))))
                have X176 : PX S t (gC K V (j + 1)) gOk dt dt172 := PX_sm X165 (by omega) (by omega) (by omega)
                have ek177 : (dt172 35 8).toNat = (dt161 35 8).toNat := by omega
                have kk178 : K (dt172 35 8).toNat = K (dt161 35 8).toNat := congrArg K ek177
                have kk179 : V (dt172 35 8).toNat = V (dt161 35 8).toNat := congrArg V ek177
                have Q180 : QX (eC K V (j + 1)) eNl dt dt172 := QX_st Q166 (fun z_ => by omega) (by omega) (fun z_ => h171_0 (by (have z_ := unhid u134_; omega))) (fun z_ => by (try rw [show (dt172 35 8).toNat = (dt161 35 8).toNat by first | with_reducible assumption | exact unhid (by with_reducible assumption) | fail]); first | done | (show [opc (K (dt48 35 8).toNat)] = [(-7)] ++ []; unfold opc; first | (rw [if_pos (by fail)]; rfl) | (rw [if_neg (by omega), if_pos (by fail)]; rfl) | (rw [if_neg (by omega), if_neg (by omega)]; rfl)))
                have ql181 := hid (fun (z_ : dt172 35 2 = 0) => (Q180 z_).1)
                refine go_retq PM32 (k := 1) (r := none) (w1 := (SH, dt172)) rfl ?_
                have u136_ := hid (And.intro (unhid h_p2) (And.intro (unhid h_p5) (And.intro (unhid hv0) (And.intro (unhid c5) (And.intro (unhid c8) (And.intro (unhid h47_2) (And.intro (unhid h47_5) (And.intro (unhid ql54) (And.intro (unhid ql55) (And.intro (unhid c58) (And.intro (unhid c103) (And.intro (unhid h160_2) (And.intro (unhid h160_5) (And.intro (unhid ql167) (And.intro (unhid ql168) (And.intro (unhid c169) (And.intro (unhid c170) (And.intro (unhid h171_1) (unhid ql181)))))))))))))))))))
                exact ⟨dt172, rfl, hI173, hF175, ⟨rfl, ⟨by exact PX_e X176 (by omega), by first | exact True.intro | with_reducible assumption | exact unhid (by with_reducible assumption) | rfl | omega | trivial, by first | exact True.intro | with_reducible assumption | exact unhid (by with_reducible assumption) | rfl | (have z_ := unhid h160_2; omega) | trivial, by first | exact True.intro | with_reducible assumption | exact unhid (by with_reducible assumption) | rfl | omega | trivial, by first | (intro z_; exfalso; fail) | exact QX_e Q180, by first | exact True.intro | with_reducible assumption | exact unhid (by with_reducible assumption) | rfl | (have z_ := unhid u136_; omega) | trivial, by first | exact True.intro | with_reducible assumption | exact unhid (by with_reducible assumption) | rfl | omega | trivial, by first | exact True.intro | with_reducible assumption | exact unhid (by with_reducible assumption) | rfl | omega | trivial⟩⟩⟩
              · exfalso; omega
            · exfalso; omega
          · skip
            replace c148 := hid c148
            refine go_toq PM32 (k := 2) (pc' := 58) (L' := [some (.inr (.inr (some 35))), some (.inl p1), some (.inl 0), some (.inl v_h56)]) (st' := [.inl 1, .inr (.inr (some 35))]) (w' := (SH, dt48)) rfl ?_
            refine go_callq PM32 PM21 (Q' := _) rfl rfl rfl rfl (sp_X1_fail_f L xs sio (d + 4) dt48 hI49 K V S t hz ht 1 ⟨by decide, by decide⟩ (by first | with_reducible assumption | exact unhid (by with_reducible assumption) | exact TKc_fr h_p0 hF51 (by decide) (by decide) (by decide) (by omega) | fail) (by first | with_reducible assumption | exact unhid (by with_reducible assumption) | exact TKc_fr h_p0 hF51 (by decide) (by decide) (by decide) (by fail) | fail) (by first | with_reducible assumption | exact unhid (by with_reducible assumption) | exact TKc_fr h_p0 hF51 (by decide) (by decide) (by decide) (by fail) | fail)) ?_
            rintro _ _ ⟨dt183, rfl, hI184, hF185, h182⟩
            refine ⟨rfl, ?_⟩
            have hF186 : Fr [35, 42] dt dt183 := Fr_tr hF51 hF185 (by decide)
            rcases h182 with ⟨rfl, h182⟩
            obtain ⟨h182_0, h182_1, h182_2, h182_3, h182_4, h182_5⟩ := h182
            replace h182_2 := hid h182_2
            have u139_ := hid (And.intro (unhid h_p2) (And.intro (unhid h_p5) (And.intro (unhid hv0) (And.intro (unhid c5) (And.intro (unhid c8) (And.intro (unhid h47_2) (And.intro (unhid h47_5) (And.intro (unhid ql54) (And.intro (unhid ql55) (And.intro (unhid c58) (And.intro (unhid c103) (And.intro (unhid c148) (unhid h182_2)))))))))))))
            have X187 : PX S t (gC K V (j + 1)) gOk dt dt183 := PX_st X52 h182_0 (fun hl => by first | exact (by unfold gR1; rw [if_neg (by (have z_ := unhid u139_; omega))] : _ = ((1 : Int), (dt48 35 8).toNat)).trans (gB_no (by show ¬ ((1 : Int) = 0); omega)).symm | (exfalso; fail))
            have Q188 : QX (eC K V (j + 1)) eNl dt dt183 := QX_no (by (have z_ := unhid h182_2; omega))
            have ql189 := hid (fun (z_ : dt183 35 2 = 0) => (Q188 z_).1)
            refine go_retq PM32 (k := 0) (r := none) (w1 := (SH, dt183)) rfl ?_
            exact ⟨dt183, rfl, hI184, hF186, ⟨rfl, ⟨by exact PX_e X187 (by omega), by first | exact True.intro | with_reducible assumption | exact unhid (by with_reducible assumption) | rfl | omega | trivial, by first | exact True.intro | with_reducible assumption | exact unhid (by with_reducible assumption) | rfl | omega | trivial, by first | exact True.intro | with_reducible assumption | exact unhid (by with_reducible assumption) | rfl | omega | trivial, by first | (intro z_; exfalso; (have z_ := unhid h182_2; omega)) | exact QX_e Q188, by first | exact True.intro | with_reducible assumption | exact unhid (by with_reducible assumption) | rfl | (have z_ := unhid h182_2; omega) | trivial, by first | exact True.intro | with_reducible assumption | exact unhid (by with_reducible assumption) | rfl | omega | trivial, by first | exact True.intro | with_reducible assumption | exact unhid (by with_reducible assumption) | rfl | omega | trivial⟩⟩⟩
  · skip
    refine go_ifq PM32 (k := 7) (p1 := 121) (p2 := 113) (L' := [some (.inr (.inr (some 35))), some (.inl p1), some (.inl 1), none]) (st' := []) (w' := (SH, dt)) rfl (c_lt (a := p1) (b := 8) (by first | exact bnd h_p1 (by decide) (by decide) | exact ⟨by omega, by omega⟩) ⟨by decide, by decide⟩) (fun c190 => ?_) (fun c190 => ?_)
    · skip
      refine go_toq PM32 (k := 7) (pc' := 132) (L' := [some (.inr (.inr (some 35))), some (.inl p1), some (.inl 1), none]) (st' := [.inl ((dt 35 8) + 1), .inr (.inr (some 35))]) (w' := (SH, dt)) rfl ?_
      have hI191 : InvC (u2 dt 35 8 ((dt 35 8) + 1)) := InvC_u2 hI (lo := -2147483648) (hi := 2147483647) rfl rfl rfl (by omega) (by omega)
      have hF192 : Fr [35, 42] dt (u2 dt 35 8 ((dt 35 8) + 1)) := Fr_u2 hF (by decide)
      have w193 : (u2 dt 35 8 ((dt 35 8) + 1)) 35 1 = dt 35 1 := rfl
      have w194 : (u2 dt 35 8 ((dt 35 8) + 1)) 35 2 = dt 35 2 := rfl
      have w195 : (u2 dt 35 8 ((dt 35 8) + 1)) 35 3 = dt 35 3 := rfl
      have w196 : (u2 dt 35 8 ((dt 35 8) + 1)) 35 7 = dt 35 7 := rfl
      have w197 : (u2 dt 35 8 ((dt 35 8) + 1)) 35 8 = (dt 35 8) + 1 := rfl
      have w198 : (u2 dt 35 8 ((dt 35 8) + 1)) 35 12 = dt 35 12 := rfl
      have lv201 := KLIVE hz (D := dt) (by omega) (by omega) (by (have z_ := unhid h_p2; omega))
      have X200 : PX S t (gC K V (j + 1)) (gC K V j) dt (u2 dt 35 8 ((dt 35 8) + 1)) := PX_st PX_0 (SPX_inc hz (by omega) (by omega) (by omega) (by omega) (by omega)) (fun hl => by first | (show (gC K V (j + 1)) (dt 35 8).toNat = (gC K V j) ((dt 35 8).toNat + 1); exact gC_n (by omega)) | (exfalso; fail))
      refine go_smpq PM32 (L' := [some (.inr (.inr (some 35))), some (.inl p1), some (.inl 1), none]) (st' := []) (w' := (SH, (u2 dt 35 8 ((dt 35 8) + 1)))) rfl rfl (s_pf rfl rfl rfl rfl ⟨by omega, by omega⟩) ?_
      refine go_toq PM32 (k := 4) (pc' := 139) (L' := [some (.inr (.inr (some 35))), some (.inl p1), some (.inl 1), none]) (st' := [.inl (p1 + 1), .inr (.inr (some 35))]) (w' := (SH, (u2 dt 35 8 ((dt 35 8) + 1)))) rfl ?_
      refine go_callq PM32 PM32 (Q' := _) rfl rfl rfl rfl (IH_X1_single L xs sio (d + 1) (u2 dt 35 8 ((dt 35 8) + 1)) hI191 K V S t hz ht (p1 + 1) (by first | exact bndp h_p1 (by decide) (by decide) | exact ⟨by omega, by omega⟩) (by first | with_reducible assumption | exact unhid (by with_reducible assumption) | exact TKc_fr h_p0 hF192 (by decide) (by decide) (by decide) (by omega) | fail) (by first | with_reducible assumption | exact unhid (by with_reducible assumption) | exact TKc_fr h_p0 hF192 (by decide) (by decide) (by decide) (by omega) | omega) (by first | with_reducible assumption | exact unhid (by with_reducible assumption) | exact TKc_fr h_p0 hF192 (by decide) (by decide) (by decide) (by omega) | omega) (by first | with_reducible assumption | exact unhid (by with_reducible assumption) | exact TKc_fr h_p0 hF192 (by decide) (by decide) (by decide) (by omega) | omega) (by first | with_reducible assumption | exact unhid (by with_reducible assumption) | exact TKc_fr h_p0 hF192 (by decide) (by decide) (by decide) (by omega) | omega) (by first | with_reducible assumption | exact unhid (by with_reducible assumption) | exact TKc_fr h_p0 hF192 (by decide) (by decide) (by decide) (by omega) | (have z_ := unhid h_p5; omega))) ?_
      rintro _ _ ⟨dt203, rfl, hI204, hF205, h202⟩
      refine ⟨rfl, ?_⟩
      have hF206 : Fr [35, 42] dt dt203 := Fr_tr hF192 hF205 (by decide)
      rcases h202 with ⟨rfl, h202⟩
      obtain ⟨h202_0, h202_1, h202_2, h202_3, h202_4, h202_5, h202_6, h202_7⟩ := h202
      have X207 : PX S t (gC K V (j + 1)) gOk dt dt203 := PX_st X200 h202_0 (fun hl => by first | exact gB_id.symm | (exfalso; fail))
      have Q208 : QX (eC K V (j + 1)) (fun _ => [-8]) dt dt203 := QX_st QX_0 (fun z_ => by have y_ := SPX_ok h202_0 (by first | with_reducible assumption | exact unhid (by with_reducible assumption) | omega) z_; first | exact y_.1 | fail) (by omega) (fun z_ => CDX_l (D' := (u2 dt 35 8 ((dt 35 8) + 1))) rfl (fun j => u2_ne (by omega)) ((fun z_ => h202_4 z_) z_)) (fun z_ => by have y_ := SPX_ok h202_0 (by first | with_reducible assumption | exact unhid (by with_reducible assumption) | omega) z_; (try rw [y_.2.2]); have hl := y_.2.1; rw [show ((u2 dt 35 8 ((dt 35 8) + 1)) 35 8).toNat = (dt 35 8).toNat + 1 by first | with_reducible assumption | exact unhid (by with_reducible assumption) | omega] at hl ⊢; first | done | (exact eC_n (by omega)))
      have ql209 := fun (z_ : dt203 35 2 = 0) => (SPX_ok h202_0 (by first | with_reducible assumption | exact unhid (by with_reducible assumption) | omega) z_).1
      replace ql209 := hid ql209
      have ql210 := hid (fun (z_ : dt203 35 2 = 0) => (Q208 z_).1)
      refine go_toq PM32 (k := 2) (pc' := 145) (L' := [some (.inr (.inr (some 35))), some (.inl p1), some (.inl 1), none]) (st' := [.inl (-8), .inr (.inr (some 35))]) (w' := (SH, dt203)) rfl ?_
      refine go_callq PM32 PM30 (Q' := _) rfl rfl rfl rfl (sp_X1_emit_f L xs sio (d + 4) dt203 hI204  (-8) ⟨by decide, by decide⟩ ) ?_
      rintro _ _ ⟨dt212, rfl, hI213, hF214, h211⟩
      refine ⟨rfl, ?_⟩
      have hF215 : Fr [35, 42] dt dt212 := Fr_tr hF206 hF214 (by decide)
      rcases h211 with ⟨rfl, h211⟩
      obtain ⟨h211_0, h211_1, h211_2, h211_3, h211_4, h211_5, h211_6⟩ := h211
      replace h211_0 := hid h211_0
      replace h211_1 := hid h211_1
      have X216 : PX S t (gC K V (j + 1)) gOk dt dt212 := PX_sm X207 (by omega) (by omega) (by omega)
      have ek217 : (dt212 35 8).toNat = (dt203 35 8).toNat := by omega
      have kk218 : K (dt212 35 8).toNat = K (dt203 35 8).toNat := congrArg K ek217
      have kk219 : V (dt212 35 8).toNat = V (dt203 35 8).toNat := congrArg V ek217
      have Q220 : QX (eC K V (j + 1)) eNl dt dt212 := QX_st Q208 (fun z_ => by omega) (by omega) (fun z_ => h211_0 (by (have z_ := unhid h_p5; omega))) (fun z_ => by (try rw [show (dt212 35 8).toNat = (dt203 35 8).toNat by first | with_reducible assumption | exact unhid (by with_reducible assumption) | fail]); first | done | (rfl))
      have ql221 := hid (fun (z_ : dt212 35 2 = 0) => (Q220 z_).1)
      refine go_retq PM32 (k := 1) (r := none) (w1 := (SH, dt212)) rfl ?_
      exact ⟨dt212, rfl, hI213, hF215, ⟨rfl, ⟨by exact PX_e X216 (by omega), by first | exact True.intro | with_reducible assumption | exact unhid (by with_reducible assumption) | rfl | omega | trivial, by first | exact True.intro | with_reducible assumption | exact unhid (by with_reducible assumption) | rfl | omega | trivial, by first | exact True.intro | with_reducible assumption | exact unhid (by with_reducible assumption) | rfl | omega | trivial, by first | (intro z_; exfalso; fail) | exact QX_e Q220, by first | exact True.intro | with_reducible assumption | exact unhid (by with_reducible assumption) | rfl | (have z_ := unhid h_p5; have z2_ := unhid h211_1; omega) | trivial, by first | exact True.intro | with_reducible assumption | exact unhid (by with_reducible assumption) | rfl | omega | trivial, by first | exact True.intro | with_reducible assumption | exact unhid (by with_reducible assumption) | rfl | omega | trivial⟩⟩⟩
    · skip
      refine go_toq PM32 (k := 2) (pc' := 115) (L' := [some (.inr (.inr (some 35))), some (.inl p1), some (.inl 1), none]) (st' := [.inl 3, .inr (.inr (some 35))]) (w' := (SH, dt)) rfl ?_
      refine go_callq PM32 PM21 (Q' := _) rfl rfl rfl rfl (sp_X1_fail_f L xs sio (d + 4) dt hI K V S t hz ht 3 ⟨by decide, by decide⟩ (by first | with_reducible assumption | exact unhid (by with_reducible assumption) | exact TKc_fr h_p0 hF (by decide) (by decide) (by decide) (by fail) | fail) (by first | with_reducible assumption | exact unhid (by with_reducible assumption) | exact TKc_fr h_p0 hF (by decide) (by decide) (by decide) (by fail) | fail) (by first | with_reducible assumption | exact unhid (by with_reducible assumption) | exact TKc_fr h_p0 hF (by decide) (by decide) (by decide) (by fail) | fail)) ?_
      rintro _ _ ⟨dt223, rfl, hI224, hF225, h222⟩
      refine ⟨rfl, ?_⟩
      have hF226 : Fr [35, 42] dt dt223 := Fr_tr hF hF225 (by decide)
      rcases h222 with ⟨rfl, h222⟩
      obtain ⟨h222_0, h222_1, h222_2, h222_3, h222_4, h222_5⟩ := h222
      replace h222_2 := hid h222_2
      have X227 : PX S t (gC K V (j + 1)) gOk dt dt223 := PX_st PX_0 h222_0 (fun hl => by first | exact (by exact gC_3 (by omega) : _ = ((3 : Int), (dt 35 8).toNat)).trans (gB_no (by show ¬ ((3 : Int) = 0); fail)).symm | (exfalso; omega))
      have Q228 : QX (eC K V (j + 1)) eNl dt dt223 := QX_no (by omega)
      have ql229 := hid (fun (z_ : dt223 35 2 = 0) => (Q228 z_).1)
      refine go_retq PM32 (k := 1) (r := none) (w1 := (SH, dt223)) rfl ?_
      exact ⟨dt223, rfl, hI224, hF226, ⟨rfl, ⟨by exact PX_e X227 (by omega), by first | exact True.intro | with_reducible assumption | exact unhid (by with_reducible assumption) | rfl | omega | trivial, by first | exact True.intro | with_reducible assumption | exact unhid (by with_reducible assumption) | rfl | omega | trivial, by first | exact True.intro | with_reducible assumption | exact unhid (by with_reducible assumption) | rfl | omega | trivial, by first | (intro z_; exfalso; omega) | exact QX_e Q228, by first | exact True.intro | with_reducible assumption | exact unhid (by with_reducible assumption) | rfl | omega | trivial, by first | exact True.intro | with_reducible assumption | exact unhid (by with_reducible assumption) | rfl | fail | trivial, by first | exact True.intro | with_reducible assumption | exact unhid (by with_reducible assumption) | rfl | fail | trivial⟩⟩⟩
theorem lv_all_X1_single_f : ∀ j : Nat, (∀ (L : Nat) (xs : Nat → Int32) (sio : Option Nat) (d : Nat) (dt : Nat → Nat → Int) (hI : InvC dt) (K V S : Nat → Int) (t : Nat) (hz : KZ K t) (ht : t ≤ 500) (p1 : Int) (h_p1 : 0 ≤ p1 ∧ p1 ≤ 8) (h_p0 : TKc K V S t dt) (h_p1 : 0 ≤ dt 35 8 ∧ dt 35 8 ≤ (t : Int)) (h_p2 : ¬ dt 35 2 = 0 → dt 35 8 = (t : Int)) (h_p3 : p1 + ((j : Nat) : Int) = 8) (h_p4 : 2 * j ≤ d) (h_p5 : dt 35 2 = 0 → dt 35 12 ≤ dt 35 8), GO (am_XX L xs sio) (d + 3) 32 0 [some (.inr (.inr (some 35))), some (.inl p1), none, none] [] (SH, dt) (fun r w2 => ∃ dt2 : Nat → Nat → Int, w2 = (SH, dt2) ∧ InvC dt2 ∧ Fr [35, 42] dt dt2 ∧ ((r = none ∧ (SPX S t dt dt2 (gC K V j)) ∧ (0 ≤ dt2 35 8 ∧ dt2 35 8 ≤ (t : Int)) ∧ (¬ dt2 35 2 = 0 → dt2 35 8 = (t : Int)) ∧ (dt 35 8 ≤ dt2 35 8) ∧ (dt2 35 2 = 0 → CDX dt dt2 ((eC K V j) (dt 35 8).toNat)) ∧ (dt2 35 2 = 0 → dt2 35 12 + dt 35 8 ≤ dt2 35 8 + dt 35 12) ∧ (dt2 35 1 = dt 35 1) ∧ (dt2 35 7 = dt 35 7))))) ∧ (∀ (L : Nat) (xs : Nat → Int32) (sio : Option Nat) (d : Nat) (dt : Nat → Nat → Int) (hI : InvC dt) (K V S : Nat → Int) (t : Nat) (hz : KZ K t) (ht : t ≤ 500) (p1 : Int) (h_p1 : 0 ≤ p1 ∧ p1 ≤ 8) (h_p0 : TKc K V S t dt) (h_p1 : 0 ≤ dt 35 8 ∧ dt 35 8 ≤ (t : Int)) (h_p2 : ¬ dt 35 2 = 0 → dt 35 8 = (t : Int)) (h_p3 : p1 + ((j : Nat) : Int) = 8) (h_p4 : 2 * j ≤ d) (h_p5 : dt 35 2 = 0 → dt 35 12 ≤ dt 35 8), GO (am_XX L xs sio) (d + 4) 31 0 [some (.inr (.inr (some 35))), some (.inl p1), none, none] [] (SH, dt) (fun r w2 => ∃ dt2 : Nat → Nat → Int, w2 = (SH, dt2) ∧ InvC dt2 ∧ Fr [35, 42] dt dt2 ∧ ((r = none ∧ (SPX S t dt dt2 (gB_ K V j)) ∧ (0 ≤ dt2 35 8 ∧ dt2 35 8 ≤ (t : Int)) ∧ (¬ dt2 35 2 = 0 → dt2 35 8 = (t : Int)) ∧ (dt 35 8 ≤ dt2 35 8) ∧ (dt2 35 2 = 0 → CDX dt dt2 ((eB K V j) (dt 35 8).toNat)) ∧ (dt2 35 2 = 0 → dt2 35 12 + dt 35 8 ≤ dt2 35 8 + dt 35 12) ∧ (dt2 35 1 = dt 35 1) ∧ (dt2 35 7 = dt 35 7)))))
  | 0 => by
    have g0 : ∀ (L : Nat) (xs : Nat → Int32) (sio : Option Nat) (d : Nat) (dt : Nat → Nat → Int) (hI : InvC dt) (K V S : Nat → Int) (t : Nat) (hz : KZ K t) (ht : t ≤ 500) (p1 : Int) (h_p1 : 0 ≤ p1 ∧ p1 ≤ 8) (h_p0 : TKc K V S t dt) (h_p1 : 0 ≤ dt 35 8 ∧ dt 35 8 ≤ (t : Int)) (h_p2 : ¬ dt 35 2 = 0 → dt 35 8 = (t : Int)) (h_p3 : p1 + ((0 : Nat) : Int) = 8) (h_p4 : 2 * 0 ≤ d) (h_p5 : dt 35 2 = 0 → dt 35 12 ≤ dt 35 8), GO (am_XX L xs sio) (d + 3) 32 0 [some (.inr (.inr (some 35))), some (.inl p1), none, none] [] (SH, dt) (fun r w2 => ∃ dt2 : Nat → Nat → Int, w2 = (SH, dt2) ∧ InvC dt2 ∧ Fr [35, 42] dt dt2 ∧ ((r = none ∧ (SPX S t dt dt2 (gC K V 0)) ∧ (0 ≤ dt2 35 8 ∧ dt2 35 8 ≤ (t : Int)) ∧ (¬ dt2 35 2 = 0 → dt2 35 8 = (t : Int)) ∧ (dt 35 8 ≤ dt2 35 8) ∧ (dt2 35 2 = 0 → CDX dt dt2 ((eC K V 0) (dt 35 8).toNat)) ∧ (dt2 35 2 = 0 → dt2 35 12 + dt 35 8 ≤ dt2 35 8 + dt 35 12) ∧ (dt2 35 1 = dt 35 1) ∧ (dt2 35 7 = dt 35 7)))) := by
      intro z0 z1 z2 z3 z4 z5 z6 z7 z8 z9 z10 z11 z12 z13 z14 z15 z16 z17 z18 z19
      have e : z12 = 8 := by omega
      subst e
      exact sp_X1_single_8f z0 z1 z2 z3 z4 z5 z6 z7 z8 z9 z10 z11 z14 z15 z16 z19
    have g1 : ∀ (L : Nat) (xs : Nat → Int32) (sio : Option Nat) (d : Nat) (dt : Nat → Nat → Int) (hI : InvC dt) (K V S : Nat → Int) (t : Nat) (hz : KZ K t) (ht : t ≤ 500) (p1 : Int) (h_p1 : 0 ≤ p1 ∧ p1 ≤ 8) (h_p0 : TKc K V S t dt) (h_p1 : 0 ≤ dt 35 8 ∧ dt 35 8 ≤ (t : Int)) (h_p2 : ¬ dt 35 2 = 0 → dt 35 8 = (t : Int)) (h_p3 : p1 + ((0 : Nat) : Int) = 8) (h_p4 : 2 * 0 ≤ d) (h_p5 : dt 35 2 = 0 → dt 35 12 ≤ dt 35 8), GO (am_XX L xs sio) (d + 4) 31 0 [some (.inr (.inr (some 35))), some (.inl p1), none, none] [] (SH, dt) (fun r w2 => ∃ dt2 : Nat → Nat → Int, w2 = (SH, dt2) ∧ InvC dt2 ∧ Fr [35, 42] dt dt2 ∧ ((r = none ∧ (SPX S t dt dt2 (gB_ K V 0)) ∧ (0 ≤ dt2 35 8 ∧ dt2 35 8 ≤ (t : Int)) ∧ (¬ dt2 35 2 = 0 → dt2 35 8 = (t : Int)) ∧ (dt 35 8 ≤ dt2 35 8) ∧ (dt2 35 2 = 0 → CDX dt dt2 ((eB K V 0) (dt 35 8).toNat)) ∧ (dt2 35 2 = 0 → dt2 35 12 + dt 35 8 ≤ dt2 35 8 + dt 35 12) ∧ (dt2 35 1 = dt 35 1) ∧ (dt2 35 7 = dt 35 7)))) := fun z0 z1 z2 z3 z4 z5 z6 z7 z8 z9 z10 z11 z12 z13 z14 z15 z16 z17 z18 z19 => lv_X1_condition_f z0 z1 z2 z3 z4 z5 z6 z7 z8 z9 z10 z11 0 g0 z12 z13 z14 z15 z16 z17 z18 z19
    exact ⟨g0, g1⟩
  | j + 1 => by
    obtain ⟨h_X1_single, h_X1_condition⟩ := lv_all_X1_single_f j
    have g0 : ∀ (L : Nat) (xs : Nat → Int32) (sio : Option Nat) (d : Nat) (dt : Nat → Nat → Int) (hI : InvC dt) (K V S : Nat → Int) (t : Nat) (hz : KZ K t) (ht : t ≤ 500) (p1 : Int) (h_p1 : 0 ≤ p1 ∧ p1 ≤ 8) (h_p0 : TKc K V S t dt) (h_p1 : 0 ≤ dt 35 8 ∧ dt 35 8 ≤ (t : Int)) (h_p2 : ¬ dt 35 2 = 0 → dt 35 8 = (t : Int)) (h_p3 : p1 + (((j + 1) : Nat) : Int) = 8) (h_p4 : 2 * (j + 1) ≤ d) (h_p5 : dt 35 2 = 0 → dt 35 12 ≤ dt 35 8), GO (am_XX L xs sio) (d + 3) 32 0 [some (.inr (.inr (some 35))), some (.inl p1), none, none] [] (SH, dt) (fun r w2 => ∃ dt2 : Nat → Nat → Int, w2 = (SH, dt2) ∧ InvC dt2 ∧ Fr [35, 42] dt dt2 ∧ ((r = none ∧ (SPX S t dt dt2 (gC K V (j + 1))) ∧ (0 ≤ dt2 35 8 ∧ dt2 35 8 ≤ (t : Int)) ∧ (¬ dt2 35 2 = 0 → dt2 35 8 = (t : Int)) ∧ (dt 35 8 ≤ dt2 35 8) ∧ (dt2 35 2 = 0 → CDX dt dt2 ((eC K V (j + 1)) (dt 35 8).toNat)) ∧ (dt2 35 2 = 0 → dt2 35 12 + dt 35 8 ≤ dt2 35 8 + dt 35 12) ∧ (dt2 35 1 = dt 35 1) ∧ (dt2 35 7 = dt 35 7)))) := by
      intro z0 z1 z2 z3 z4 z5 z6 z7 z8 z9 z10 z11 z12 z13 z14 z15 z16 z17 z18 z19
      have y := lv_X1_single_f z0 z1 z2 (z3 - 2) z4 z5 z6 z7 z8 z9 z10 z11 j h_X1_single h_X1_condition z12 z13 z14 z15 z16 z17 (by omega) z19
      rw [show z3 - 2 + 5 = z3 + 3 by first | with_reducible assumption | omega] at y
      exact y
    have g1 : ∀ (L : Nat) (xs : Nat → Int32) (sio : Option Nat) (d : Nat) (dt : Nat → Nat → Int) (hI : InvC dt) (K V S : Nat → Int) (t : Nat) (hz : KZ K t) (ht : t ≤ 500) (p1 : Int) (h_p1 : 0 ≤ p1 ∧ p1 ≤ 8) (h_p0 : TKc K V S t dt) (h_p1 : 0 ≤ dt 35 8 ∧ dt 35 8 ≤ (t : Int)) (h_p2 : ¬ dt 35 2 = 0 → dt 35 8 = (t : Int)) (h_p3 : p1 + (((j + 1) : Nat) : Int) = 8) (h_p4 : 2 * (j + 1) ≤ d) (h_p5 : dt 35 2 = 0 → dt 35 12 ≤ dt 35 8), GO (am_XX L xs sio) (d + 4) 31 0 [some (.inr (.inr (some 35))), some (.inl p1), none, none] [] (SH, dt) (fun r w2 => ∃ dt2 : Nat → Nat → Int, w2 = (SH, dt2) ∧ InvC dt2 ∧ Fr [35, 42] dt dt2 ∧ ((r = none ∧ (SPX S t dt dt2 (gB_ K V (j + 1))) ∧ (0 ≤ dt2 35 8 ∧ dt2 35 8 ≤ (t : Int)) ∧ (¬ dt2 35 2 = 0 → dt2 35 8 = (t : Int)) ∧ (dt 35 8 ≤ dt2 35 8) ∧ (dt2 35 2 = 0 → CDX dt dt2 ((eB K V (j + 1)) (dt 35 8).toNat)) ∧ (dt2 35 2 = 0 → dt2 35 12 + dt 35 8 ≤ dt2 35 8 + dt 35 12) ∧ (dt2 35 1 = dt 35 1) ∧ (dt2 35 7 = dt 35 7)))) := fun z0 z1 z2 z3 z4 z5 z6 z7 z8 z9 z10 z11 z12 z13 z14 z15 z16 z17 z18 z19 => lv_X1_condition_f z0 z1 z2 z3 z4 z5 z6 z7 z8 z9 z10 z11 (j + 1) g0 z12 z13 z14 z15 z16 z17 z18 z19
    exact ⟨g0, g1⟩
theorem sp_X1_condition_0f (L : Nat) (xs : Nat → Int32) (sio : Option Nat) (d : Nat) (dt : Nat → Nat → Int) (hI : InvC dt) (K V S : Nat → Int) (t : Nat) (hz : KZ K t) (ht : t ≤ 500) (h_p0 : TKc K V S t dt) (h_p1 : 0 ≤ dt 35 8 ∧ dt 35 8 ≤ (t : Int)) (h_p2 : ¬ dt 35 2 = 0 → dt 35 8 = (t : Int)) (h_p3 : dt 35 2 = 0 → dt 35 12 ≤ dt 35 8) : GO (am_XX L xs sio) (d + 20) 31 0 [some (.inr (.inr (some 35))), some (.inl 0), none, none] [] (SH, dt) (fun r w2 => ∃ dt2 : Nat → Nat → Int, w2 = (SH, dt2) ∧ InvC dt2 ∧ Fr [35, 42] dt dt2 ∧ ((r = none ∧ (SPX S t dt dt2 (gB_ K V 8)) ∧ (0 ≤ dt2 35 8 ∧ dt2 35 8 ≤ (t : Int)) ∧ (¬ dt2 35 2 = 0 → dt2 35 8 = (t : Int)) ∧ (dt 35 8 ≤ dt2 35 8) ∧ (dt2 35 2 = 0 → CDX dt dt2 ((eB K V 8) (dt 35 8).toNat)) ∧ (dt2 35 2 = 0 → dt2 35 12 + dt 35 8 ≤ dt2 35 8 + dt 35 12) ∧ (dt2 35 1 = dt 35 1) ∧ (dt2 35 7 = dt 35 7)))) := (lv_all_X1_single_f 8).2 L xs sio (d + 16) dt hI K V S t hz ht 0 ⟨by decide, by decide⟩ h_p0 h_p1 h_p2 (by omega) (by omega) h_p3
