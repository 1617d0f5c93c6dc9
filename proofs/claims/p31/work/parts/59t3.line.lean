set_option maxHeartbeats 8000000 in
theorem sp_X1_readLine_f0 (L : Nat) (xs : Nat → Int32) (sio : Option Nat) (d : Nat) (dt : Nat → Nat → Int) (hI : InvC dt) (K V S : Nat → Int) (t : Nat) (hz : KZ K t) (ht : t ≤ 500) (p1 : Int) (h_p1 : 0 ≤ p1 ∧ p1 ≤ 60) (h_p0 : TKc K V S t dt) (h_p1 : 0 ≤ dt 35 8 ∧ dt 35 8 ≤ (t : Int)) (h_p2 : ¬ dt 35 2 = 0 → dt 35 8 = (t : Int)) (h_p3 : K (dt 35 8).toNat = 1000) (h_p4 : dt 35 2 = 0 → dt 35 12 ≤ dt 35 8) : GO (am_XX L xs sio) (d + 21) 29 0 [some (.inr (.inr (some 35))), some (.inl p1), none] [] (SH, dt) (fun r w2 => ∃ dt2 : Nat → Nat → Int, w2 = (SH, dt2) ∧ InvC dt2 ∧ Fr [35, 41, 42] dt dt2 ∧ ((r = none ∧ (SPX S t dt dt2 (gLine K V)) ∧ (0 ≤ dt2 35 8 ∧ dt2 35 8 ≤ (t : Int)) ∧ (¬ dt2 35 2 = 0 → dt2 35 8 = (t : Int)) ∧ (dt 35 8 ≤ dt2 35 8) ∧ (dt 35 8 + 1 ≤ dt2 35 8) ∧ (dt2 35 2 = 0 → dt2 41 p1.toNat = lnR K V (dt 35 8).toNat ∧ dt2 41 (p1 + 1).toNat = dt 35 12 ∧ dt2 41 (p1 + 2).toNat = dt 35 12 + ((eE K V (lnP K (dt 35 8).toNat)).length : Int) ∧ dt2 41 (p1 + 3).toNat = dt2 35 12) ∧ (∀ j : Nat, (j : Int) < p1 ∨ p1 + 4 ≤ (j : Int) → dt2 41 j = dt 41 j) ∧ (dt2 35 2 = 0 → CDX dt dt2 ((eLn K V) (dt 35 8).toNat)) ∧ (dt2 35 2 = 0 → dt2 35 12 + dt 35 8 ≤ dt2 35 8 + dt 35 12) ∧ (dt2 35 1 = dt 35 1) ∧ (dt2 35 7 = dt 35 7)))) := by
  replace h_p2 := hid h_p2
  replace h_p4 := hid h_p4
  have hF : Fr [35, 41, 42] dt dt := Fr_refl
  have r1 : 0 ≤ dt 35 12 ∧ dt 35 12 ≤ 500 := InvC_get hI 35 12 rfl rfl
  have r2 : (-2147483648) ≤ dt 35 2 ∧ dt 35 2 ≤ 2147483647 := InvC_get hI 35 2 rfl rfl
  have h7 : dt 35 7 = (t : Int) + 1 := h_p0.1
  have hk0 := TKc_k h_p0 h_p1
  have hv0 := hid (TKc_v h_p0 h_p1)
  have hs0 := TKc_s h_p0 h_p1
  have lt0_ := KZ_lt (i := (dt 35 8).toNat) hz
  refine go_ifq PM29 (k := 1) (p1 := 15) (p2 := 4) (L' := [some (.inr (.inr (some 35))), some (.inl p1), none]) (st' := []) (w' := (SH, dt)) rfl (z_lt (a := p1) (by first | exact bnd h_p1 (by decide) (by decide) | exact ⟨by omega, by omega⟩)) (fun c3 => ?_) (fun c3 => ?_)
  · exfalso; omega
  · skip
    refine go_ifq PM29 (k := 6) (p1 := 16) (p2 := 15) (L' := [some (.inr (.inr (some 35))), some (.inl p1), none]) (st' := []) (w' := (SH, dt)) rfl (c_le (a := p1 + 4) (b := 64) (by first | exact bndp h_p1 (by decide) (by decide) | exact ⟨by omega, by omega⟩) ⟨by decide, by decide⟩) (fun c4 => ?_) (fun c4 => ?_)
    · skip
      refine go_toq PM29 (k := 1) (pc' := 17) (L' := [some (.inr (.inr (some 35))), some (.inl p1), none]) (st' := [.inr (.inr (some 35))]) (w' := (SH, dt)) rfl ?_
      refine go_callq PM29 PM20 (Q' := _) rfl rfl rfl rfl (sp_X1_token_f L xs sio (d + 20) dt hI K V S t hz ht  (by first | with_reducible assumption | exact unhid (by with_reducible assumption) | exact TKc_fr h_p0 hF (by decide) (by decide) (by decide) (by fail) | fail) (by first | with_reducible assumption | exact unhid (by with_reducible assumption) | exact TKc_fr h_p0 hF (by decide) (by decide) (by decide) (by fail) | fail) (by first | with_reducible assumption | exact unhid (by with_reducible assumption) | exact TKc_fr h_p0 hF (by decide) (by decide) (by decide) (by fail) | fail)) ?_
      rintro _ _ ⟨rfl, h5⟩
      refine ⟨rfl, ?_⟩
      rcases h5 with ⟨v_h5, rfl, h5r, h5⟩
      refine go_ifq PM29 (k := 1) (p1 := 30) (p2 := 26) (L' := [some (.inr (.inr (some 35))), some (.inl p1), none]) (st' := []) (w' := (SH, dt)) rfl (c_ne (a := v_h5) (b := 1001) (by first | exact bnd h5r (by decide) (by decide) | exact ⟨by fail, by fail⟩) ⟨by decide, by decide⟩) (fun c7 => ?_) (fun c7 => ?_)
      · skip
        replace c7 := hid c7
        refine go_toq PM29 (k := 7) (pc' := 39) (L' := [some (.inr (.inr (some 35))), some (.inl p1), some (.inl 0)]) (st' := [.inl ((dt 35 8) + 1), .inr (.inr (some 35))]) (w' := (SH, dt)) rfl ?_
        have hI8 : InvC (u2 dt 35 8 ((dt 35 8) + 1)) := InvC_u2 hI (lo := -2147483648) (hi := 2147483647) rfl rfl rfl (by omega) (by omega)
        have hF9 : Fr [35, 41, 42] dt (u2 dt 35 8 ((dt 35 8) + 1)) := Fr_u2 hF (by decide)
        have w10 : (u2 dt 35 8 ((dt 35 8) + 1)) 35 1 = dt 35 1 := rfl
        have w11 : (u2 dt 35 8 ((dt 35 8) + 1)) 35 2 = dt 35 2 := rfl
        have w12 : (u2 dt 35 8 ((dt 35 8) + 1)) 35 3 = dt 35 3 := rfl
        have w13 : (u2 dt 35 8 ((dt 35 8) + 1)) 35 7 = dt 35 7 := rfl
        have w14 : (u2 dt 35 8 ((dt 35 8) + 1)) 35 8 = (dt 35 8) + 1 := rfl
        have w15 : (u2 dt 35 8 ((dt 35 8) + 1)) 35 12 = dt 35 12 := rfl
        have lv18 := KLIVE hz (D := dt) (by omega) (by omega) (by (have z_ := unhid h_p2; omega))
        have X17 : PX S t (gLine K V) (fun i => gB (gA K V 7 i) (gL1 K V)) dt (u2 dt 35 8 ((dt 35 8) + 1)) := PX_st PX_0 (SPX_inc hz (by omega) (by omega) (by omega) (by omega) (by omega)) (fun hl => by first | (show (gLine K V) (dt 35 8).toNat = (fun i => gB (gA K V 7 i) (gL1 K V)) ((dt 35 8).toNat + 1); exact gLine_r (by omega)) | (exfalso; fail))
        have R19 : ∀ j : Nat, (j : Int) < p1 ∨ p1 + 4 ≤ (j : Int) → (u2 dt 35 8 ((dt 35 8) + 1)) 41 j = dt 41 j := fun j hj => (u2_ne (by omega)).trans ((fun _ _ => rfl) j hj)
        refine go_smpq PM29 (L' := [some (.inr (.inr (some 35))), some (.inl p1), some (.inl 0)]) (st' := []) (w' := (SH, (u2 dt 35 8 ((dt 35 8) + 1)))) rfl rfl (s_pf rfl rfl rfl rfl ⟨by omega, by omega⟩) ?_
        refine go_toq PM29 (k := 7) (pc' := 59) (L' := [some (.inr (.inr (some 35))), some (.inl p1), some (.inl 0)]) (st' := [.inl 8, .inr (.inr (some 35)), .inl p1, .inr (.inr (some 41))]) (w' := (SH, (u2 dt 35 8 ((dt 35 8) + 1)))) rfl ?_
        refine go_callq PM29 PM24 (Q' := _) rfl rfl rfl rfl (sp_X1_oneOf_f L xs sio (d + 19) (u2 dt 35 8 ((dt 35 8) + 1)) hI8 K V S t hz ht 8 ⟨by decide, by decide⟩ (by first | with_reducible assumption | exact unhid (by with_reducible assumption) | exact TKc_fr h_p0 hF9 (by decide) (by decide) (by decide) (by omega) | fail) (by first | with_reducible assumption | exact unhid (by with_reducible assumption) | exact TKc_fr h_p0 hF9 (by decide) (by decide) (by decide) (by omega) | omega) (by first | with_reducible assumption | exact unhid (by with_reducible assumption) | exact TKc_fr h_p0 hF9 (by decide) (by decide) (by decide) (by omega) | omega)) ?_
        rintro _ _ ⟨dt21, rfl, hI22, hF23, h20⟩
        refine ⟨rfl, ?_⟩
        have hF24 : Fr [35, 41, 42] dt dt21 := Fr_tr hF9 hF23 (by decide)
        rcases h20 with ⟨v_h20, rfl, h20r, h20⟩
        obtain ⟨h20_0, h20_1, h20_2, h20_3, h20_4, h20_5, h20_6, h20_7, h20_8⟩ := h20
        replace h20_2 := hid h20_2
        replace h20_4 := hid h20_4
        have w25 : dt21 35 1 = dt 35 1 := h20_6.trans w10
        have w26 : dt21 35 7 = dt 35 7 := h20_7.trans w13
        have w27 : dt21 35 12 = dt 35 12 := h20_8.trans w15
        have X28 : PX S t (gLine K V) (gL1 K V) dt dt21 := PX_st X17 h20_0 (fun hl => by first | exact rfl | (exfalso; fail))
        have Q29 : QX (eLn K V) (eL1n K V) dt dt21 := QX_st QX_0 (fun z_ => by have y_ := SPX_ok h20_0 (by first | with_reducible assumption | exact unhid (by with_reducible assumption) | omega) z_; first | exact y_.1 | fail) (by omega) (fun z_ => CDX_l (D' := (u2 dt 35 8 ((dt 35 8) + 1))) rfl (fun j => u2_ne (by omega)) ((fun _ => CDX_sm (by omega) (fun j => hF23 42 (by decide) j)) z_)) (fun z_ => by have y_ := SPX_ok h20_0 (by first | with_reducible assumption | exact unhid (by with_reducible assumption) | omega) z_; (try rw [y_.2.2]); have hl := y_.2.1; rw [show ((u2 dt 35 8 ((dt 35 8) + 1)) 35 8).toNat = (dt 35 8).toNat + 1 by first | with_reducible assumption | exact unhid (by with_reducible assumption) | omega] at hl ⊢; first | done | (exact eLn_r (by omega) hl))
        have ql30 := fun (z_ : dt21 35 2 = 0) => (SPX_ok h20_0 (by first | with_reducible assumption | exact unhid (by with_reducible assumption) | omega) z_).1
        replace ql30 := hid ql30
        have ql31 := hid (fun (z_ : dt21 35 2 = 0) => (Q29 z_).1)
        have R32 : ∀ j : Nat, (j : Int) < p1 ∨ p1 + 4 ≤ (j : Int) → dt21 41 j = dt 41 j := fun j hj => (hF23 41 (by decide) j).trans (R19 j hj)
        clear h20_6 w10 h20_7 w13 h20_8 w15
        have hI33 : InvC (u2 dt21 41 (p1).toNat v_h20) := InvC_u2 hI22 (lo := -2147483648) (hi := 2147483647) rfl rfl rfl (by first | exact bnd1 h20r (by decide) | fail) (by first | exact bnd2 h20r (by decide) | fail)
        have hF34 : Fr [35, 41, 42] dt (u2 dt21 41 (p1).toNat v_h20) := Fr_u2 hF24 (by decide)
        have w35 : (u2 dt21 41 (p1).toNat v_h20) 35 1 = dt 35 1 := w25
        have w36 : (u2 dt21 41 (p1).toNat v_h20) 35 2 = dt21 35 2 := rfl
        have w37 : (u2 dt21 41 (p1).toNat v_h20) 35 3 = dt21 35 3 := rfl
        have w38 : (u2 dt21 41 (p1).toNat v_h20) 35 7 = dt 35 7 := w26
        have w39 : (u2 dt21 41 (p1).toNat v_h20) 35 8 = dt21 35 8 := rfl
        have w40 : (u2 dt21 41 (p1).toNat v_h20) 35 12 = dt 35 12 := w27
        have Q41 : QX (eLn K V) (eL1n K V) dt (u2 dt21 41 (p1).toNat v_h20) := QX_sm Q29 rfl rfl rfl (fun j => u2_ne (by omega))
        have ql42 := hid (fun (z_ : (u2 dt21 41 (p1).toNat v_h20) 35 2 = 0) => (Q41 z_).1)
        have X43 : PX S t (gLine K V) (gL1 K V) dt (u2 dt21 41 (p1).toNat v_h20) := PX_sm X28 rfl rfl rfl
        have kk44 : K ((u2 dt21 41 (p1).toNat v_h20) 35 8).toNat = K (dt21 35 8).toNat := rfl
        have kk45 : V ((u2 dt21 41 (p1).toNat v_h20) 35 8).toNat = V (dt21 35 8).toNat := rfl
        have R46 : ∀ j : Nat, (j : Int) < p1 ∨ p1 + 4 ≤ (j : Int) → (u2 dt21 41 (p1).toNat v_h20) 41 j = dt 41 j := fun j hj => (u2_ne (by omega)).trans (R32 j hj)
        have R47 : (u2 dt21 41 (p1).toNat v_h20) 35 2 = 0 → (u2 dt21 41 (p1).toNat v_h20) 41 p1.toNat = lnR K V (dt 35 8).toNat := fun z_ => u2_eq.trans (by rw [lnR_r (by omega)]; have y_ := h20_4 z_; rw [y_]; congr 1; omega)
        replace R47 := hid R47
        refine go_smpq PM29 (L' := [some (.inr (.inr (some 35))), some (.inl p1), some (.inl 0)]) (st' := []) (w' := (SH, (u2 dt21 41 (p1).toNat v_h20))) rfl rfl (s_iast (n := 64) rfl ⟨by omega, by omega⟩ ⟨by omega, by omega⟩) ?_
        have r48 : 0 ≤ dt21 35 12 ∧ dt21 35 12 ≤ 500 := InvC_get hI22 35 12 rfl rfl
        refine go_toq PM29 (k := 7) (pc' := 74) (L' := [some (.inr (.inr (some 35))), some (.inl p1), some (.inl 0)]) (st' := [.inl (dt21 35 12), .inl (p1 + 1), .inr (.inr (some 41))]) (w' := (SH, (u2 dt21 41 (p1).toNat v_h20))) rfl ?_
        have hI49 : InvC (u2 (u2 dt21 41 (p1).toNat v_h20) 41 ((p1 + 1).toNat) (dt21 35 12)) := InvC_u2 hI33 (lo := -2147483648) (hi := 2147483647) rfl rfl rfl (by first | exact bnd1 r48 (by decide) | fail) (by first | exact bnd2 r48 (by decide) | fail)
        have hF50 : Fr [35, 41, 42] dt (u2 (u2 dt21 41 (p1).toNat v_h20) 41 ((p1 + 1).toNat) (dt21 35 12)) := Fr_u2 hF34 (by decide)
        have w51 : (u2 (u2 dt21 41 (p1).toNat v_h20) 41 ((p1 + 1).toNat) (dt21 35 12)) 35 1 = dt 35 1 := w35
        have w52 : (u2 (u2 dt21 41 (p1).toNat v_h20) 41 ((p1 + 1).toNat) (dt21 35 12)) 35 2 = dt21 35 2 := w36
        have w53 : (u2 (u2 dt21 41 (p1).toNat v_h20) 41 ((p1 + 1).toNat) (dt21 35 12)) 35 3 = dt21 35 3 := w37
        have w54 : (u2 (u2 dt21 41 (p1).toNat v_h20) 41 ((p1 + 1).toNat) (dt21 35 12)) 35 7 = dt 35 7 := w38
        have w55 : (u2 (u2 dt21 41 (p1).toNat v_h20) 41 ((p1 + 1).toNat) (dt21 35 12)) 35 8 = dt21 35 8 := w39
        have w56 : (u2 (u2 dt21 41 (p1).toNat v_h20) 41 ((p1 + 1).toNat) (dt21 35 12)) 35 12 = dt 35 12 := w40
        have Q57 : QX (eLn K V) (eL1n K V) dt (u2 (u2 dt21 41 (p1).toNat v_h20) 41 ((p1 + 1).toNat) (dt21 35 12)) := QX_sm Q41 rfl rfl rfl (fun j => u2_ne (by omega))
        have ql58 := hid (fun (z_ : (u2 (u2 dt21 41 (p1).toNat v_h20) 41 ((p1 + 1).toNat) (dt21 35 12)) 35 2 = 0) => (Q57 z_).1)
        have X59 : PX S t (gLine K V) (gL1 K V) dt (u2 (u2 dt21 41 (p1).toNat v_h20) 41 ((p1 + 1).toNat) (dt21 35 12)) := PX_sm X43 rfl rfl rfl
        have kk60 : K ((u2 (u2 dt21 41 (p1).toNat v_h20) 41 ((p1 + 1).toNat) (dt21 35 12)) 35 8).toNat = K ((u2 dt21 41 (p1).toNat v_h20) 35 8).toNat := rfl
        have kk61 : V ((u2 (u2 dt21 41 (p1).toNat v_h20) 41 ((p1 + 1).toNat) (dt21 35 12)) 35 8).toNat = V ((u2 dt21 41 (p1).toNat v_h20) 35 8).toNat := rfl
        have R62 : (u2 (u2 dt21 41 (p1).toNat v_h20) 41 ((p1 + 1).toNat) (dt21 35 12)) 35 2 = 0 → (u2 (u2 dt21 41 (p1).toNat v_h20) 41 ((p1 + 1).toNat) (dt21 35 12)) 41 p1.toNat = lnR K V (dt 35 8).toNat := fun z_ => (u2_ne (by omega)).trans (R47 z_)
        replace R62 := hid R62
        have R63 : ∀ j : Nat, (j : Int) < p1 ∨ p1 + 4 ≤ (j : Int) → (u2 (u2 dt21 41 (p1).toNat v_h20) 41 ((p1 + 1).toNat) (dt21 35 12)) 41 j = dt 41 j := fun j hj => (u2_ne (by omega)).trans (R46 j hj)
        have R64 : (u2 (u2 dt21 41 (p1).toNat v_h20) 41 ((p1 + 1).toNat) (dt21 35 12)) 41 (p1 + 1).toNat = dt 35 12 := u2_eq.trans (by omega)
        clear w35 w37 w38 w40
        refine go_smpq PM29 (L' := [some (.inr (.inr (some 35))), some (.inl p1), some (.inl 0)]) (st' := []) (w' := (SH, (u2 (u2 dt21 41 (p1).toNat v_h20) 41 ((p1 + 1).toNat) (dt21 35 12)))) rfl rfl (s_iast (n := 64) rfl ⟨by omega, by omega⟩ (by first | exact bnd r48 (by decide) (by decide) | exact ⟨by fail, by fail⟩)) ?_
        refine go_toq PM29 (k := 1) (pc' := 76) (L' := [some (.inr (.inr (some 35))), some (.inl p1), some (.inl 0)]) (st' := [.inr (.inr (some 35))]) (w' := (SH, (u2 (u2 dt21 41 (p1).toNat v_h20) 41 ((p1 + 1).toNat) (dt21 35 12)))) rfl ?_
        refine go_callq PM29 PM33 (Q' := _) rfl rfl rfl rfl (sp_X1_sum_f L xs sio (d + 18) (u2 (u2 dt21 41 (p1).toNat v_h20) 41 ((p1 + 1).toNat) (dt21 35 12)) hI49 K V S t hz ht  (by first | with_reducible assumption | exact unhid (by with_reducible assumption) | exact TKc_fr h_p0 hF50 (by decide) (by decide) (by decide) (by omega) | fail) (by first | with_reducible assumption | exact unhid (by with_reducible assumption) | exact TKc_fr h_p0 hF50 (by decide) (by decide) (by decide) (by omega) | omega) (by first | with_reducible assumption | exact unhid (by with_reducible assumption) | exact TKc_fr h_p0 hF50 (by decide) (by decide) (by decide) (by omega) | (have z_ := unhid h20_2; omega)) (by first | with_reducible assumption | exact unhid (by with_reducible assumption) | exact TKc_fr h_p0 hF50 (by decide) (by decide) (by decide) (by omega) | (have z_ := unhid h_p4; omega))) ?_
        rintro _ _ ⟨dt66, rfl, hI67, hF68, h65⟩
        refine ⟨rfl, ?_⟩
        have hF69 : Fr [35, 41, 42] dt dt66 := Fr_tr hF50 hF68 (by decide)
        rcases h65 with ⟨rfl, h65⟩
        obtain ⟨h65_0, h65_1, h65_2, h65_3, h65_4, h65_5, h65_6, h65_7⟩ := h65
        replace h65_2 := hid h65_2
        replace h65_4 := hid h65_4
        replace h65_5 := hid h65_5
        have w70 : dt66 35 1 = dt 35 1 := h65_6.trans w51
        have w71 : dt66 35 7 = dt 35 7 := h65_7.trans w54
        have X72 : PX S t (gLine K V) (gL2 K V) dt dt66 := PX_st X59 h65_0 (fun hl => by first | exact rfl | (exfalso; fail))
        have Q73 : QX (eLn K V) (eLb K V) dt dt66 := QX_st Q57 (fun z_ => by have y_ := SPX_ok h65_0 (by first | with_reducible assumption | exact unhid (by with_reducible assumption) | (have z_ := unhid h20_2; omega)) z_; first | exact y_.1 | fail) (by omega) (fun z_ => h65_4 z_) (fun z_ => by have y_ := SPX_ok h65_0 (by first | with_reducible assumption | exact unhid (by with_reducible assumption) | (have z_ := unhid h20_2; omega)) z_; (try rw [y_.2.2]); have hl := y_.2.1; first | done | (rfl))
        have ql74 := fun (z_ : dt66 35 2 = 0) => (SPX_ok h65_0 (by first | with_reducible assumption | exact unhid (by with_reducible assumption) | (have z_ := unhid h20_2; omega)) z_).1
        replace ql74 := hid ql74
        have ql75 := hid (fun (z_ : dt66 35 2 = 0) => (Q73 z_).1)
        have se76 : dt66 35 2 = 0 → dt66 35 12 = dt 35 12 + ((eE K V (lnP K (dt 35 8).toNat)).length : Int) := fun z_ => by have y_ := (h65_4 z_).1; rw [show ((u2 (u2 dt21 41 (p1).toNat v_h20) 41 ((p1 + 1).toNat) (dt21 35 12)) 35 8).toNat = lnP K (dt 35 8).toNat from by rw [lnP_r (by omega)]; have w_ := SPX_at h20_0 (by omega) (by omega) (fun _ u_ => gA_at u_) (by have v_ := SPX_ok h65_0 (by (have z_ := unhid ql74; omega)) z_; omega); omega] at y_; omega
        replace se76 := hid se76
        have R77 : dt66 35 2 = 0 → dt66 41 p1.toNat = lnR K V (dt 35 8).toNat := fun z_ => ((hF68 41 (by decide) _).trans (R62 (by (have z_ := unhid ql74; omega))))
        replace R77 := hid R77
        have R78 : dt66 41 (p1 + 1).toNat = dt 35 12 := (hF68 41 (by decide) _).trans R64
        have R79 : ∀ j : Nat, (j : Int) < p1 ∨ p1 + 4 ≤ (j : Int) → dt66 41 j = dt 41 j := fun j hj => (hF68 41 (by decide) j).trans (R63 j hj)
        clear h65_6 w51 h65_7 w54
        have r80 : 0 ≤ dt66 35 12 ∧ dt66 35 12 ≤ 500 := InvC_get hI67 35 12 rfl rfl
        refine go_toq PM29 (k := 7) (pc' := 90) (L' := [some (.inr (.inr (some 35))), some (.inl p1), some (.inl 0)]) (st' := [.inl (dt66 35 12), .inl (p1 + 2), .inr (.inr (some 41))]) (w' := (SH, dt66)) rfl ?_
        have hI81 : InvC (u2 dt66 41 ((p1 + 2).toNat) (dt66 35 12)) := InvC_u2 hI67 (lo := -2147483648) (hi := 2147483647) rfl rfl rfl (by first | exact bnd1 r80 (by decide) | fail) (by first | exact bnd2 r80 (by decide) | fail)
        have hF82 : Fr [35, 41, 42] dt (u2 dt66 41 ((p1 + 2).toNat) (dt66 35 12)) := Fr_u2 hF69 (by decide)
        have w83 : (u2 dt66 41 ((p1 + 2).toNat) (dt66 35 12)) 35 1 = dt 35 1 := w70
        have w84 : (u2 dt66 41 ((p1 + 2).toNat) (dt66 35 12)) 35 2 = dt66 35 2 := rfl
        have w85 : (u2 dt66 41 ((p1 + 2).toNat) (dt66 35 12)) 35 3 = dt66 35 3 := rfl
        have w86 : (u2 dt66 41 ((p1 + 2).toNat) (dt66 35 12)) 35 7 = dt 35 7 := w71
        have w87 : (u2 dt66 41 ((p1 + 2).toNat) (dt66 35 12)) 35 8 = dt66 35 8 := rfl
        have w88 : (u2 dt66 41 ((p1 + 2).toNat) (dt66 35 12)) 35 12 = dt66 35 12 := rfl
        have Q89 : QX (eLn K V) (eLb K V) dt (u2 dt66 41 ((p1 + 2).toNat) (dt66 35 12)) := QX_sm Q73 rfl rfl rfl (fun j => u2_ne (by omega))
        have ql90 := hid (fun (z_ : (u2 dt66 41 ((p1 + 2).toNat) (dt66 35 12)) 35 2 = 0) => (Q89 z_).1)
        have X91 : PX S t (gLine K V) (gL2 K V) dt (u2 dt66 41 ((p1 + 2).toNat) (dt66 35 12)) := PX_sm X72 rfl rfl rfl
        have kk92 : K ((u2 dt66 41 ((p1 + 2).toNat) (dt66 35 12)) 35 8).toNat = K (dt66 35 8).toNat := rfl
        have kk93 : V ((u2 dt66 41 ((p1 + 2).toNat) (dt66 35 12)) 35 8).toNat = V (dt66 35 8).toNat := rfl
        have u13_ := hid (And.intro (unhid h_p2) (And.intro (unhid h_p4) (And.intro (unhid hv0) (And.intro (unhid c7) (And.intro (unhid h20_2) (And.intro (unhid h20_4) (And.intro (unhid ql30) (And.intro (unhid ql31) (And.intro (unhid ql42) (And.intro (unhid ql58) (And.intro (unhid h65_2) (And.intro (unhid h65_5) (And.intro (unhid ql74) (And.intro (unhid ql75) (unhid ql90)))))))))))))))
        have R94 : (u2 dt66 41 ((p1 + 2).toNat) (dt66 35 12)) 35 2 = 0 → (u2 dt66 41 ((p1 + 2).toNat) (dt66 35 12)) 41 p1.toNat = lnR K V (dt 35 8).toNat := fun z_ => (u2_ne (by omega)).trans (R77 z_)
        replace R94 := hid R94
        have R95 : (u2 dt66 41 ((p1 + 2).toNat) (dt66 35 12)) 41 (p1 + 1).toNat = dt 35 12 := (u2_ne (by omega)).trans R78
        have R96 : ∀ j : Nat, (j : Int) < p1 ∨ p1 + 4 ≤ (j : Int) → (u2 dt66 41 ((p1 + 2).toNat) (dt66 35 12)) 41 j = dt 41 j := fun j hj => (u2_ne (by omega)).trans (R79 j hj)
        have R97 : (u2 dt66 41 ((p1 + 2).toNat) (dt66 35 12)) 35 2 = 0 → (u2 dt66 41 ((p1 + 2).toNat) (dt66 35 12)) 41 (p1 + 2).toNat = dt 35 12 + ((eE K V (lnP K (dt 35 8).toNat)).length : Int) := fun z_ => u2_eq.trans (se76 z_)
        replace R97 := hid R97
        refine go_smpq PM29 (L' := [some (.inr (.inr (some 35))), some (.inl p1), some (.inl 0)]) (st' := []) (w' := (SH, (u2 dt66 41 ((p1 + 2).toNat) (dt66 35 12)))) rfl rfl (s_iast (n := 64) rfl ⟨by omega, by omega⟩ (by first | exact bnd r80 (by decide) (by decide) | exact ⟨by fail, by fail⟩)) ?_
        refine go_toq PM29 (k := 1) (pc' := 92) (L' := [some (.inr (.inr (some 35))), some (.inl p1), some (.inl 0)]) (st' := [.inr (.inr (some 35))]) (w' := (SH, (u2 dt66 41 ((p1 + 2).toNat) (dt66 35 12)))) rfl ?_
        refine go_callq PM29 PM20 (Q' := _) rfl rfl rfl rfl (sp_X1_token_f L xs sio (d + 20) (u2 dt66 41 ((p1 + 2).toNat) (dt66 35 12)) hI81 K V S t hz ht  (by first | with_reducible assumption | exact unhid (by with_reducible assumption) | exact TKc_fr h_p0 hF82 (by decide) (by decide) (by decide) (by omega) | fail) (by first | with_reducible assumption | exact unhid (by with_reducible assumption) | exact TKc_fr h_p0 hF82 (by decide) (by decide) (by decide) (by omega) | omega) (by first | with_reducible assumption | exact unhid (by with_reducible assumption) | exact TKc_fr h_p0 hF82 (by decide) (by decide) (by decide) (by omega) | (have z_ := unhid h65_2; omega))) ?_
        rintro _ _ ⟨rfl, h98⟩
        refine ⟨rfl, ?_⟩
        rcases h98 with ⟨v_h98, rfl, h98r, h98⟩
        refine go_ifq PM29 (k := 1) (p1 := 116) (p2 := 101) (L' := [some (.inr (.inr (some 35))), some (.inl p1), some (.inl 0)]) (st' := []) (w' := (SH, (u2 dt66 41 ((p1 + 2).toNat) (dt66 35 12)))) rfl (c_ne (a := v_h98) (b := 1002) (by first | exact bnd h98r (by decide) (by decide) | exact ⟨by fail, by fail⟩) ⟨by decide, by decide⟩) (fun c100 => ?_) (fun c100 => ?_)
        · skip
          replace c100 := hid c100
          refine go_toq PM29 (k := 7) (pc' := 127) (L' := [some (.inr (.inr (some 35))), some (.inl p1), some (.inl 0)]) (st' := [.inl (dt66 35 12), .inl (p1 + 3), .inr (.inr (some 41))]) (w' := (SH, (u2 dt66 41 ((p1 + 2).toNat) (dt66 35 12)))) rfl ?_
          have hI101 : InvC (u2 (u2 dt66 41 ((p1 + 2).toNat) (dt66 35 12)) 41 ((p1 + 3).toNat) (dt66 35 12)) := InvC_u2 hI81 (lo := -2147483648) (hi := 2147483647) rfl rfl rfl (by first | exact bnd1 r80 (by decide) | fail) (by first | exact bnd2 r80 (by decide) | fail)
          have hF102 : Fr [35, 41, 42] dt (u2 (u2 dt66 41 ((p1 + 2).toNat) (dt66 35 12)) 41 ((p1 + 3).toNat) (dt66 35 12)) := Fr_u2 hF82 (by decide)
          have w103 : (u2 (u2 dt66 41 ((p1 + 2).toNat) (dt66 35 12)) 41 ((p1 + 3).toNat) (dt66 35 12)) 35 1 = dt 35 1 := w83
          have w104 : (u2 (u2 dt66 41 ((p1 + 2).toNat) (dt66 35 12)) 41 ((p1 + 3).toNat) (dt66 35 12)) 35 2 = dt66 35 2 := w84
          have w105 : (u2 (u2 dt66 41 ((p1 + 2).toNat) (dt66 35 12)) 41 ((p1 + 3).toNat) (dt66 35 12)) 35 3 = dt66 35 3 := w85
          have w106 : (u2 (u2 dt66 41 ((p1 + 2).toNat) (dt66 35 12)) 41 ((p1 + 3).toNat) (dt66 35 12)) 35 7 = dt 35 7 := w86
          have w107 : (u2 (u2 dt66 41 ((p1 + 2).toNat) (dt66 35 12)) 41 ((p1 + 3).toNat) (dt66 35 12)) 35 8 = dt66 35 8 := w87
          have w108 : (u2 (u2 dt66 41 ((p1 + 2).toNat) (dt66 35 12)) 41 ((p1 + 3).toNat) (dt66 35 12)) 35 12 = dt66 35 12 := w88
          have Q109 : QX (eLn K V) (eLb K V) dt (u2 (u2 dt66 41 ((p1 + 2).toNat) (dt66 35 12)) 41 ((p1 + 3).toNat) (dt66 35 12)) := QX_sm Q89 rfl rfl rfl (fun j => u2_ne (by omega))
          have ql110 := hid (fun (z_ : (u2 (u2 dt66 41 ((p1 + 2).toNat) (dt66 35 12)) 41 ((p1 + 3).toNat) (dt66 35 12)) 35 2 = 0) => (Q109 z_).1)
          have X111 : PX S t (gLine K V) (gL2 K V) dt (u2 (u2 dt66 41 ((p1 + 2).toNat) (dt66 35 12)) 41 ((p1 + 3).toNat) (dt66 35 12)) := PX_sm X91 rfl rfl rfl
          have kk112 : K ((u2 (u2 dt66 41 ((p1 + 2).toNat) (dt66 35 12)) 41 ((p1 + 3).toNat) (dt66 35 12)) 35 8).toNat = K ((u2 dt66 41 ((p1 + 2).toNat) (dt66 35 12)) 35 8).toNat := rfl
          have kk113 : V ((u2 (u2 dt66 41 ((p1 + 2).toNat) (dt66 35 12)) 41 ((p1 + 3).toNat) (dt66 35 12)) 35 8).toNat = V ((u2 dt66 41 ((p1 + 2).toNat) (dt66 35 12)) 35 8).toNat := rfl
          have R114 : (u2 (u2 dt66 41 ((p1 + 2).toNat) (dt66 35 12)) 41 ((p1 + 3).toNat) (dt66 35 12)) 35 2 = 0 → (u2 (u2 dt66 41 ((p1 + 2).toNat) (dt66 35 12)) 41 ((p1 + 3).toNat) (dt66 35 12)) 41 p1.toNat = lnR K V (dt 35 8).toNat := fun z_ => (u2_ne (by omega)).trans (R94 z_)
          replace R114 := hid R114
          have R115 : (u2 (u2 dt66 41 ((p1 + 2).toNat) (dt66 35 12)) 41 ((p1 + 3).toNat) (dt66 35 12)) 41 (p1 + 1).toNat = dt 35 12 := (u2_ne (by omega)).trans R95
          have R116 : (u2 (u2 dt66 41 ((p1 + 2).toNat) (dt66 35 12)) 41 ((p1 + 3).toNat) (dt66 35 12)) 35 2 = 0 → (u2 (u2 dt66 41 ((p1 + 2).toNat) (dt66 35 12)) 41 ((p1 + 3).toNat) (dt66 35 12)) 41 (p1 + 2).toNat = dt 35 12 + ((eE K V (lnP K (dt 35 8).toNat)).length : Int) := fun z_ => (u2_ne (by omega)).trans (R97 z_)
          replace R116 := hid R116
          have R117 : ∀ j : Nat, (j : Int) < p1 ∨ p1 + 4 ≤ (j : Int) → (u2 (u2 dt66 41 ((p1 + 2).toNat) (dt66 35 12)) 41 ((p1 + 3).toNat) (dt66 35 12)) 41 j = dt 41 j := fun j hj => (u2_ne (by omega)).trans (R96 j hj)
          have R118 : (u2 (u2 dt66 41 ((p1 + 2).toNat) (dt66 35 12)) 41 ((p1 + 3).toNat) (dt66 35 12)) 41 (p1 + 3).toNat = dt66 35 12 := u2_eq
          clear w83 w85 w86 w88
          refine go_smpq PM29 (L' := [some (.inr (.inr (some 35))), some (.inl p1), some (.inl 0)]) (st' := []) (w' := (SH, (u2 (u2 dt66 41 ((p1 + 2).toNat) (dt66 35 12)) 41 ((p1 + 3).toNat) (dt66 35 12)))) rfl rfl (s_iast (n := 64) rfl ⟨by omega, by omega⟩ (by first | exact bnd r80 (by decide) (by decide) | exact ⟨by fail, by fail⟩)) ?_
          refine go_toq PM29 (k := 2) (pc' := 131) (L' := [some (.inr (.inr (some 35))), some (.inl p1), some (.inl 0)]) (st' := [.inl 59, .inr (.inr (some 35))]) (w' := (SH, (u2 (u2 dt66 41 ((p1 + 2).toNat) (dt66 35 12)) 41 ((p1 + 3).toNat) (dt66 35 12)))) rfl ?_
          refine go_callq PM29 PM22 (Q' := _) rfl rfl rfl rfl (sp_X1_skip_f L xs sio (d + 19) (u2 (u2 dt66 41 ((p1 + 2).toNat) (dt66 35 12)) 41 ((p1 + 3).toNat) (dt66 35 12)) hI101 K V S t hz ht 59 ⟨by decide, by decide⟩ (by first | with_reducible assumption | exact unhid (by with_reducible assumption) | exact TKc_fr h_p0 hF102 (by decide) (by decide) (by decide) (by omega) | fail) (by first | with_reducible assumption | exact unhid (by with_reducible assumption) | exact TKc_fr h_p0 hF102 (by decide) (by decide) (by decide) (by omega) | omega) (by first | with_reducible assumption | exact unhid (by with_reducible assumption) | exact TKc_fr h_p0 hF102 (by decide) (by decide) (by decide) (by omega) | (have z_ := unhid h65_2; omega))) ?_
          rintro _ _ ⟨dt120, rfl, hI121, hF122, h119⟩
          refine ⟨rfl, ?_⟩
          have hF123 : Fr [35, 41, 42] dt dt120 := Fr_tr hF102 hF122 (by decide)
          rcases h119 with ⟨rfl, h119⟩
          obtain ⟨h119_0, h119_1, h119_2, h119_3, h119_4, h119_5, h119_6⟩ := h119
          replace h119_2 := hid h119_2
          have w124 : dt120 35 1 = dt 35 1 := h119_4.trans w103
          have w125 : dt120 35 7 = dt 35 7 := h119_5.trans w106
          have w126 : dt120 35 12 = dt66 35 12 := h119_6.trans w108
          have X127 : PX S t (gLine K V) gOk dt dt120 := PX_st X111 h119_0 (fun hl => by first | (exact gL2_n (by (have z_ := unhid c100; omega))) | (exfalso; fail))
          have Q128 : QX (eLn K V) eNl dt dt120 := QX_st Q109 (fun z_ => by have y_ := SPX_ok h119_0 (by first | with_reducible assumption | exact unhid (by with_reducible assumption) | (have z_ := unhid h65_2; omega)) z_; first | exact y_.1 | fail) (by omega) (fun _ => CDX_sm (by omega) (fun j => hF122 42 (by decide) j)) (fun z_ => by have y_ := SPX_ok h119_0 (by first | with_reducible assumption | exact unhid (by with_reducible assumption) | (have z_ := unhid h65_2; omega)) z_; (try rw [y_.2.2]); have hl := y_.2.1; first | done | (exact (eLb_0 (by (have z_ := unhid c100; omega))).trans rfl))
          have ql129 := fun (z_ : dt120 35 2 = 0) => (SPX_ok h119_0 (by first | with_reducible assumption | exact unhid (by with_reducible assumption) | (have z_ := unhid h65_2; omega)) z_).1
          replace ql129 := hid ql129
          have ql130 := hid (fun (z_ : dt120 35 2 = 0) => (Q128 z_).1)
          have u20_ := hid (And.intro (unhid h_p2) (And.intro (unhid h_p4) (And.intro (unhid hv0) (And.intro (unhid c7) (And.intro (unhid h20_2) (And.intro (unhid h20_4) (And.intro (unhid ql30) (And.intro (unhid ql31) (And.intro (unhid ql42) (And.intro (unhid ql58) (And.intro (unhid h65_2) (And.intro (unhid h65_5) (And.intro (unhid ql74) (And.intro (unhid ql75) (And.intro (unhid ql90) (And.intro (unhid c100) (And.intro (unhid ql110) (And.intro (unhid h119_2) (And.intro (unhid ql129) (unhid ql130))))))))))))))))))))
          have R131 : dt120 35 2 = 0 → dt120 41 p1.toNat = lnR K V (dt 35 8).toNat := fun z_ => ((hF122 41 (by decide) _).trans (R114 (by (have z_ := unhid ql129; omega))))
          replace R131 := hid R131
          have R132 : dt120 41 (p1 + 1).toNat = dt 35 12 := (hF122 41 (by decide) _).trans R115
          have R133 : dt120 35 2 = 0 → dt120 41 (p1 + 2).toNat = dt 35 12 + ((eE K V (lnP K (dt 35 8).toNat)).length : Int) := fun z_ => ((hF122 41 (by decide) _).trans (R116 (by (have z_ := unhid ql129; omega))))
          replace R133 := hid R133
          have R134 : dt120 41 (p1 + 3).toNat = dt66 35 12 := (hF122 41 (by decide) _).trans R118
          have R135 : ∀ j : Nat, (j : Int) < p1 ∨ p1 + 4 ≤ (j : Int) → dt120 41 j = dt 41 j := fun j hj => (hF122 41 (by decide) j).trans (R117 j hj)
          clear h119_4 w103 h119_5 w106 h119_6 w108
          refine go_retq PM29 (k := 0) (r := none) (w1 := (SH, dt120)) rfl ?_
          exact ⟨dt120, rfl, hI121, hF123, ⟨rfl, ⟨by exact PX_e X127 (by omega), by first | exact True.intro | with_reducible assumption | exact unhid (by with_reducible assumption) | rfl | fail | trivial, by first | exact True.intro | with_reducible assumption | exact unhid (by with_reducible assumption) | rfl | fail | trivial, by first | exact True.intro | with_reducible assumption | exact unhid (by with_reducible assumption) | rfl | omega | trivial, by first | exact True.intro | with_reducible assumption | exact unhid (by with_reducible assumption) | rfl | omega | trivial, by first | (intro z_; exfalso; fail) | (intro z_; exact ⟨R131 z_, R132, R133 z_, (R134).trans (by omega)⟩), by first | exact fun _ _ => rfl | exact R135, by first | (intro z_; exfalso; fail) | exact QX_e Q128, by first | exact True.intro | with_reducible assumption | exact unhid (by with_reducible assumption) | rfl | (have z_ := unhid u20_; omega) | trivial, by first | exact True.intro | with_reducible assumption | exact unhid (by with_reducible assumption) | rfl | fail | trivial, by first | exact True.intro | with_reducible assumption | exact unhid (by with_reducible assumption) | rfl | fail | trivial⟩⟩⟩
        · skip
          refine go_toq PM29 (k := 5) (pc' := 108) (L' := [some (.inr (.inr (some 35))), some (.inl p1), some (.inl 0)]) (st' := [.inl ((dt66 35 8) + 1), .inr (.inr (some 35))]) (w' := (SH, (u2 dt66 41 ((p1 + 2).toNat) (dt66 35 12)))) rfl ?_
          have hI136 : InvC (u2 (u2 dt66 41 ((p1 + 2).toNat) (dt66 35 12)) 35 8 ((dt66 35 8) + 1)) := InvC_u2 hI81 (lo := -2147483648) (hi := 2147483647) rfl rfl rfl (by omega) (by omega)
          have hF137 : Fr [35, 41, 42] dt (u2 (u2 dt66 41 ((p1 + 2).toNat) (dt66 35 12)) 35 8 ((dt66 35 8) + 1)) := Fr_u2 hF82 (by decide)
          have w138 : (u2 (u2 dt66 41 ((p1 + 2).toNat) (dt66 35 12)) 35 8 ((dt66 35 8) + 1)) 35 1 = dt 35 1 := w83
          have w139 : (u2 (u2 dt66 41 ((p1 + 2).toNat) (dt66 35 12)) 35 8 ((dt66 35 8) + 1)) 35 2 = dt66 35 2 := w84
          have w140 : (u2 (u2 dt66 41 ((p1 + 2).toNat) (dt66 35 12)) 35 8 ((dt66 35 8) + 1)) 35 3 = dt66 35 3 := w85
          have w141 : (u2 (u2 dt66 41 ((p1 + 2).toNat) (dt66 35 12)) 35 8 ((dt66 35 8) + 1)) 35 7 = dt 35 7 := w86
          have w142 : (u2 (u2 dt66 41 ((p1 + 2).toNat) (dt66 35 12)) 35 8 ((dt66 35 8) + 1)) 35 8 = (dt66 35 8) + 1 := rfl
          have w143 : (u2 (u2 dt66 41 ((p1 + 2).toNat) (dt66 35 12)) 35 8 ((dt66 35 8) + 1)) 35 12 = dt66 35 12 := w88
          have lv146 := KLIVE hz (D := (u2 dt66 41 ((p1 + 2).toNat) (dt66 35 12))) (by omega) (by omega) (by (have z_ := unhid h65_2; omega))
          have X145 : PX S t (gLine K V) (fun i => gB (gB_ K V 8 i) (gK K 59)) dt (u2 (u2 dt66 41 ((p1 + 2).toNat) (dt66 35 12)) 35 8 ((dt66 35 8) + 1)) := PX_st X91 (SPX_inc hz (by omega) (by omega) (by omega) (by omega) (by omega)) (fun hl => by first | (show (gL2 K V) ((u2 dt66 41 ((p1 + 2).toNat) (dt66 35 12)) 35 8).toNat = (fun i => gB (gB_ K V 8 i) (gK K 59)) (((u2 dt66 41 ((p1 + 2).toNat) (dt66 35 12)) 35 8).toNat + 1); exact gL2_w (by omega)) | (exfalso; fail))
          have R147 : (u2 (u2 dt66 41 ((p1 + 2).toNat) (dt66 35 12)) 35 8 ((dt66 35 8) + 1)) 35 2 = 0 → (u2 (u2 dt66 41 ((p1 + 2).toNat) (dt66 35 12)) 35 8 ((dt66 35 8) + 1)) 41 p1.toNat = lnR K V (dt 35 8).toNat := fun z_ => (u2_ne (by omega)).trans (R94 z_)
          replace R147 := hid R147
          have R148 : (u2 (u2 dt66 41 ((p1 + 2).toNat) (dt66 35 12)) 35 8 ((dt66 35 8) + 1)) 41 (p1 + 1).toNat = dt 35 12 := (u2_ne (by omega)).trans R95
          have R149 : (u2 (u2 dt66 41 ((p1 + 2).toNat) (dt66 35 12)) 35 8 ((dt66 35 8) + 1)) 35 2 = 0 → (u2 (u2 dt66 41 ((p1 + 2).toNat) (dt66 35 12)) 35 8 ((dt66 35 8) + 1)) 41 (p1 + 2).toNat = dt 35 12 + ((eE K V (lnP K (dt 35 8).toNat)).length : Int) := fun z_ => (u2_ne (by omega)).trans (R97 z_)
          replace R149 := hid R149
          have R150 : ∀ j : Nat, (j : Int) < p1 ∨ p1 + 4 ≤ (j : Int) → (u2 (u2 dt66 41 ((p1 + 2).toNat) (dt66 35 12)) 35 8 ((dt66 35 8) + 1)) 41 j = dt 41 j := fun j hj => (u2_ne (by omega)).trans (R96 j hj)
          clear w83 w85 w86 w88
          refine go_smpq PM29 (L' := [some (.inr (.inr (some 35))), some (.inl p1), some (.inl 0)]) (st' := []) (w' := (SH, (u2 (u2 dt66 41 ((p1 + 2).toNat) (dt66 35 12)) 35 8 ((dt66 35 8) + 1)))) rfl rfl (s_pf rfl rfl rfl rfl ⟨by omega, by omega⟩) ?_
          refine go_toq PM29 (k := 2) (pc' := 113) (L' := [some (.inr (.inr (some 35))), some (.inl p1), some (.inl 0)]) (st' := [.inl 0, .inr (.inr (some 35))]) (w' := (SH, (u2 (u2 dt66 41 ((p1 + 2).toNat) (dt66 35 12)) 35 8 ((dt66 35 8) + 1)))) rfl ?_
          refine go_callq PM29 PM31 (Q' := _) rfl rfl rfl rfl (sp_X1_condition_0f L xs sio (d + 0) (u2 (u2 dt66 41 ((p1 + 2).toNat) (dt66 35 12)) 35 8 ((dt66 35 8) + 1)) hI136 K V S t hz ht  (by first | with_reducible assumption | exact unhid (by with_reducible assumption) | exact TKc_fr h_p0 hF137 (by decide) (by decide) (by decide) (by omega) | fail) (by first | with_reducible assumption | exact unhid (by with_reducible assumption) | exact TKc_fr h_p0 hF137 (by decide) (by decide) (by decide) (by omega) | omega) (by first | with_reducible assumption | exact unhid (by with_reducible assumption) | exact TKc_fr h_p0 hF137 (by decide) (by decide) (by decide) (by omega) | omega) (by first | with_reducible assumption | exact unhid (by with_reducible assumption) | exact TKc_fr h_p0 hF137 (by decide) (by decide) (by decide) (by omega) | (have z_ := unhid u13_; omega))) ?_
          rintro _ _ ⟨dt152, rfl, hI153, hF154, h151⟩
          refine ⟨rfl, ?_⟩
          have hF155 : Fr [35, 41, 42] dt dt152 := Fr_tr hF137 hF154 (by decide)
          rcases h151 with ⟨rfl, h151⟩
          obtain ⟨h151_0, h151_1, h151_2, h151_3, h151_4, h151_5, h151_6, h151_7⟩ := h151
          have w156 : dt152 35 1 = dt 35 1 := h151_6.trans w138
          have w157 : dt152 35 7 = dt 35 7 := h151_7.trans w141
          have X158 : PX S t (gLine K V) (gK K 59) dt dt152 := PX_st X145 h151_0 (fun hl => by first | exact rfl | (exfalso; fail))
          have Q159 : QX (eLn K V) eNl dt dt152 := QX_st Q89 (fun z_ => by have y_ := SPX_ok h151_0 (by first | with_reducible assumption | exact unhid (by with_reducible assumption) | omega) z_; first | exact y_.1 | fail) (by omega) (fun z_ => CDX_l (D' := (u2 (u2 dt66 41 ((p1 + 2).toNat) (dt66 35 12)) 35 8 ((dt66 35 8) + 1))) rfl (fun j => u2_ne (by omega)) ((fun z_ => h151_4 z_) z_)) (fun z_ => by have y_ := SPX_ok h151_0 (by first | with_reducible assumption | exact unhid (by with_reducible assumption) | omega) z_; (try rw [y_.2.2]); have hl := y_.2.1; rw [show ((u2 (u2 dt66 41 ((p1 + 2).toNat) (dt66 35 12)) 35 8 ((dt66 35 8) + 1)) 35 8).toNat = ((u2 dt66 41 ((p1 + 2).toNat) (dt66 35 12)) 35 8).toNat + 1 by first | with_reducible assumption | exact unhid (by with_reducible assumption) | omega] at hl ⊢; first | done | (exact (eLb_1 (by omega)).trans (List.append_nil _).symm))
          have ql160 := fun (z_ : dt152 35 2 = 0) => (SPX_ok h151_0 (by first | with_reducible assumption | exact unhid (by with_reducible assumption) | omega) z_).1
          replace ql160 := hid ql160
          have ql161 := hid (fun (z_ : dt152 35 2 = 0) => (Q159 z_).1)
          have R162 : dt152 35 2 = 0 → dt152 41 p1.toNat = lnR K V (dt 35 8).toNat := fun z_ => ((hF154 41 (by decide) _).trans (R147 (by omega)))
          replace R162 := hid R162
          have R163 : dt152 41 (p1 + 1).toNat = dt 35 12 := (hF154 41 (by decide) _).trans R148
          have R164 : dt152 35 2 = 0 → dt152 41 (p1 + 2).toNat = dt 35 12 + ((eE K V (lnP K (dt 35 8).toNat)).length : Int) := fun z_ => ((hF154 41 (by decide) _).trans (R149 (by omega)))
          replace R164 := hid R164
          have R165 : ∀ j : Nat, (j : Int) < p1 ∨ p1 + 4 ≤ (j : Int) → dt152 41 j = dt 41 j := fun j hj => (hF154 41 (by decide) j).trans (R150 j hj)
          clear h151_6 w138 h151_7 w141
          have r166 : 0 ≤ dt152 35 12 ∧ dt152 35 12 ≤ 500 := InvC_get hI153 35 12 rfl rfl
          refine go_toq PM29 (k := 7) (pc' := 127) (L' := [some (.inr (.inr (some 35))), some (.inl p1), some (.inl 0)]) (st' := [.inl (dt152 35 12), .inl (p1 + 3), .inr (.inr (some 41))]) (w' := (SH, dt152)) rfl ?_
          have hI167 : InvC (u2 dt152 41 ((p1 + 3).toNat) (dt152 35 12)) := InvC_u2 hI153 (lo := -2147483648) (hi := 2147483647) rfl rfl rfl (by first | exact bnd1 r166 (by decide) | fail) (by first | exact bnd2 r166 (by decide) | fail)
          have hF168 : Fr [35, 41, 42] dt (u2 dt152 41 ((p1 + 3).toNat) (dt152 35 12)) := Fr_u2 hF155 (by decide)
          have w169 : (u2 dt152 41 ((p1 + 3).toNat) (dt152 35 12)) 35 1 = dt 35 1 := w156
          have w170 : (u2 dt152 41 ((p1 + 3).toNat) (dt152 35 12)) 35 2 = dt152 35 2 := rfl
          have w171 : (u2 dt152 41 ((p1 + 3).toNat) (dt152 35 12)) 35 3 = dt152 35 3 := rfl
          have w172 : (u2 dt152 41 ((p1 + 3).toNat) (dt152 35 12)) 35 7 = dt 35 7 := w157
          have w173 : (u2 dt152 41 ((p1 + 3).toNat) (dt152 35 12)) 35 8 = dt152 35 8 := rfl
          have w174 : (u2 dt152 41 ((p1 + 3).toNat) (dt152 35 12)) 35 12 = dt152 35 12 := rfl
          have Q175 : QX (eLn K V) eNl dt (u2 dt152 41 ((p1 + 3).toNat) (dt152 35 12)) := QX_sm Q159 rfl rfl rfl (fun j => u2_ne (by omega))
          have ql176 := hid (fun (z_ : (u2 dt152 41 ((p1 + 3).toNat) (dt152 35 12)) 35 2 = 0) => (Q175 z_).1)
          have X177 : PX S t (gLine K V) (gK K 59) dt (u2 dt152 41 ((p1 + 3).toNat) (dt152 35 12)) := PX_sm X158 rfl rfl rfl
          have kk178 : K ((u2 dt152 41 ((p1 + 3).toNat) (dt152 35 12)) 35 8).toNat = K (dt152 35 8).toNat := rfl
          have kk179 : V ((u2 dt152 41 ((p1 + 3).toNat) (dt152 35 12)) 35 8).toNat = V (dt152 35 8).toNat := rfl
          have R180 : (u2 dt152 41 ((p1 + 3).toNat) (dt152 35 12)) 35 2 = 0 → (u2 dt152 41 ((p1 + 3).toNat) (dt152 35 12)) 41 p1.toNat = lnR K V (dt 35 8).toNat := fun z_ => (u2_ne (by omega)).trans (R162 z_)
          replace R180 := hid R180
          have R181 : (u2 dt152 41 ((p1 + 3).toNat) (dt152 35 12)) 41 (p1 + 1).toNat = dt 35 12 := (u2_ne (by omega)).trans R163
          have R182 : (u2 dt152 41 ((p1 + 3).toNat) (dt152 35 12)) 35 2 = 0 → (u2 dt152 41 ((p1 + 3).toNat) (dt152 35 12)) 41 (p1 + 2).toNat = dt 35 12 + ((eE K V (lnP K (dt 35 8).toNat)).length : Int) := fun z_ => (u2_ne (by omega)).trans (R164 z_)
          replace R182 := hid R182
          have R183 : ∀ j : Nat, (j : Int) < p1 ∨ p1 + 4 ≤ (j : Int) → (u2 dt152 41 ((p1 + 3).toNat) (dt152 35 12)) 41 j = dt 41 j := fun j hj => (u2_ne (by omega)).trans (R165 j hj)
          have R184 : (u2 dt152 41 ((p1 + 3).toNat) (dt152 35 12)) 41 (p1 + 3).toNat = dt152 35 12 := u2_eq
          refine go_smpq PM29 (L' := [some (.inr (.inr (some 35))), some (.inl p1), some (.inl 0)]) (st' := []) (w' := (SH, (u2 dt152 41 ((p1 + 3).toNat) (dt152 35 12)))) rfl rfl (s_iast (n := 64) rfl ⟨by omega, by omega⟩ (by first | exact bnd r166 (by decide) (by decide) | exact ⟨by fail, by fail⟩)) ?_
          refine go_toq PM29 (k := 2) (pc' := 131) (L' := [some (.inr (.inr (some 35))), some (.inl p1), some (.inl 0)]) (st' := [.inl 59, .inr (.inr (some 35))]) (w' := (SH, (u2 dt152 41 ((p1 + 3).toNat) (dt152 35 12)))) rfl ?_
          refine go_callq PM29 PM22 (Q' := _) rfl rfl rfl rfl (sp_X1_skip_f L xs sio (d + 19) (u2 dt152 41 ((p1 + 3).toNat) (dt152 35 12)) hI167 K V S t hz ht 59 ⟨by decide, by decide⟩ (by first | with_reducible assumption | exact unhid (by with_reducible assumption) | exact TKc_fr h_p0 hF168 (by decide) (by decide) (by decide) (by omega) | fail) (by first | with_reducible assumption | exact unhid (by with_reducible assumption) | exact TKc_fr h_p0 hF168 (by decide) (by decide) (by decide) (by omega) | omega) (by first | with_reducible assumption | exact unhid (by with_reducible assumption) | exact TKc_fr h_p0 hF168 (by decide) (by decide) (by decide) (by omega) | omega)) ?_
          rintro _ _ ⟨dt186, rfl, hI187, hF188, h185⟩
          refine ⟨rfl, ?_⟩
          have hF189 : Fr [35, 41, 42] dt dt186 := Fr_tr hF168 hF188 (by decide)
          rcases h185 with ⟨rfl, h185⟩
          obtain ⟨h185_0, h185_1, h185_2, h185_3, h185_4, h185_5, h185_6⟩ := h185
          replace h185_2 := hid h185_2
          have w190 : dt186 35 1 = dt 35 1 := h185_4.trans w169
          have w191 : dt186 35 7 = dt 35 7 := h185_5.trans w172
          have w192 : dt186 35 12 = dt152 35 12 := h185_6.trans w174
          have X193 : PX S t (gLine K V) gOk dt dt186 := PX_st X177 h185_0 (fun hl => by first | exact gB_id.symm | (exfalso; fail))
          have Q194 : QX (eLn K V) eNl dt dt186 := QX_st Q175 (fun z_ => by have y_ := SPX_ok h185_0 (by first | with_reducible assumption | exact unhid (by with_reducible assumption) | omega) z_; first | exact y_.1 | fail) (by omega) (fun _ => CDX_sm (by omega) (fun j => hF188 42 (by decide) j)) (fun z_ => by have y_ := SPX_ok h185_0 (by first | with_reducible assumption | exact unhid (by with_reducible assumption) | omega) z_; (try rw [y_.2.2]); have hl := y_.2.1; first | done | (rfl))
          have ql195 := fun (z_ : dt186 35 2 = 0) => (SPX_ok h185_0 (by first | with_reducible assumption | exact unhid (by with_reducible assumption) | omega) z_).1
          replace ql195 := hid ql195
          have ql196 := hid (fun (z_ : dt186 35 2 = 0) => (Q194 z_).1)
          have u28_ := hid (And.intro (unhid h_p2) (And.intro (unhid h_p4) (And.intro (unhid hv0) (And.intro (unhid c7) (And.intro (unhid h20_2) (And.intro (unhid h20_4) (And.intro (unhid ql30) (And.intro (unhid ql31) (And.intro (unhid ql42) (And.intro (unhid ql58) (And.intro (unhid h65_2) (And.intro (unhid h65_5) (And.intro (unhid ql74) (And.intro (unhid ql75) (And.intro (unhid ql90) (And.intro (unhid ql160) (And.intro (unhid ql161) (And.intro (unhid ql176) (And.intro (unhid h185_2) (And.intro (unhid ql195) (unhid ql196)))))))))))))))))))))
          have R197 : dt186 35 2 = 0 → dt186 41 p1.toNat = lnR K V (dt 35 8).toNat := fun z_ => ((hF188 41 (by decide) _).trans (R180 (by (have z_ := unhid ql195; omega))))
          replace R197 := hid R197
          have R198 : dt186 41 (p1 + 1).toNat = dt 35 12 := (hF188 41 (by decide) _).trans R181
          have R199 : dt186 35 2 = 0 → dt186 41 (p1 + 2).toNat = dt 35 12 + ((eE K V (lnP K (dt 35 8).toNat)).length : Int) := fun z_ => ((hF188 41 (by decide) _).trans (R182 (by (have z_ := unhid ql195; omega))))
          replace R199 := hid R199
          have R200 : dt186 41 (p1 + 3).toNat = dt152 35 12 := (hF188 41 (by decide) _).trans R184
          have R201 : ∀ j : Nat, (j : Int) < p1 ∨ p1 + 4 ≤ (j : Int) → dt186 41 j = dt 41 j := fun j hj => (hF188 41 (by decide) j).trans (R183 j hj)
          clear h185_4 w169 h185_5 w172 h185_6 w174
          refine go_retq PM29 (k := 0) (r := none) (w1 := (SH, dt186)) rfl ?_
          exact ⟨dt186, rfl, hI187, hF189, ⟨rfl, ⟨by exact PX_e X193 (by omega), by first | exact True.intro | with_reducible assumption | exact unhid (by with_reducible assumption) | rfl | fail | trivial, by first | exact True.intro | with_reducible assumption | exact unhid (by with_reducible assumption) | rfl | fail | trivial, by first | exact True.intro | with_reducible assumption | exact unhid (by with_reducible assumption) | rfl | omega | trivial, by first | exact True.intro | with_reducible assumption | exact unhid (by with_reducible assumption) | rfl | omega | trivial, by first | (intro z_; exfalso; fail) | (intro z_; exact ⟨R197 z_, R198, R199 z_, (R200).trans (by omega)⟩), by first | exact fun _ _ => rfl | exact R201, by first | (intro z_; exfalso; fail) | exact QX_e Q194, by first | exact True.intro | with_reducible assumption | exact unhid (by with_reducible assumption) | rfl | (have z_ := unhid u28_; omega) | trivial, by first | exact True.intro | with_reducible assumption | exact unhid (by with_reducible assumption) | rfl | fail | trivial, by first | exact True.intro | with_reducible assumption | exact unhid (by with_reducible assumption) | rfl | fail | trivial⟩⟩⟩
      · skip
        exfalso; omega
    · exfalso; omega
set_option maxHeartbeats 8000000 in
theorem sp_X1_readLine_f1 (L : Nat) (xs : Nat → Int32) (sio : Option Nat) (d : Nat) (dt : Nat → Nat → Int) (hI : InvC dt) (K V S : Nat → Int) (t : Nat) (hz : KZ K t) (ht : t ≤ 500) (p1 : Int) (h_p1 : 0 ≤ p1 ∧ p1 ≤ 60) (h_p0 : TKc K V S t dt) (h_p1 : 0 ≤ dt 35 8 ∧ dt 35 8 ≤ (t : Int)) (h_p2 : ¬ dt 35 2 = 0 → dt 35 8 = (t : Int)) (h_p3 : K (dt 35 8).toNat = 1001) (h_p4 : dt 35 2 = 0 → dt 35 12 ≤ dt 35 8) : GO (am_XX L xs sio) (d + 21) 29 0 [some (.inr (.inr (some 35))), some (.inl p1), none] [] (SH, dt) (fun r w2 => ∃ dt2 : Nat → Nat → Int, w2 = (SH, dt2) ∧ InvC dt2 ∧ Fr [35, 41, 42] dt dt2 ∧ ((r = none ∧ (SPX S t dt dt2 (gLine K V)) ∧ (0 ≤ dt2 35 8 ∧ dt2 35 8 ≤ (t : Int)) ∧ (¬ dt2 35 2 = 0 → dt2 35 8 = (t : Int)) ∧ (dt 35 8 ≤ dt2 35 8) ∧ (dt 35 8 + 1 ≤ dt2 35 8) ∧ (dt2 35 2 = 0 → dt2 41 p1.toNat = lnR K V (dt 35 8).toNat ∧ dt2 41 (p1 + 1).toNat = dt 35 12 ∧ dt2 41 (p1 + 2).toNat = dt 35 12 + ((eE K V (lnP K (dt 35 8).toNat)).length : Int) ∧ dt2 41 (p1 + 3).toNat = dt2 35 12) ∧ (∀ j : Nat, (j : Int) < p1 ∨ p1 + 4 ≤ (j : Int) → dt2 41 j = dt 41 j) ∧ (dt2 35 2 = 0 → CDX dt dt2 ((eLn K V) (dt 35 8).toNat)) ∧ (dt2 35 2 = 0 → dt2 35 12 + dt 35 8 ≤ dt2 35 8 + dt 35 12) ∧ (dt2 35 1 = dt 35 1) ∧ (dt2 35 7 = dt 35 7)))) := by
  replace h_p2 := hid h_p2
  replace h_p4 := hid h_p4
  have hF : Fr [35, 41, 42] dt dt := Fr_refl
  have r1 : 0 ≤ dt 35 12 ∧ dt 35 12 ≤ 500 := InvC_get hI 35 12 rfl rfl
  have r2 : (-2147483648) ≤ dt 35 2 ∧ dt 35 2 ≤ 2147483647 := InvC_get hI 35 2 rfl rfl
  have h7 : dt 35 7 = (t : Int) + 1 := h_p0.1
  have hk0 := TKc_k h_p0 h_p1
  have hv0 := hid (TKc_v h_p0 h_p1)
  have hs0 := TKc_s h_p0 h_p1
  have lt0_ := KZ_lt (i := (dt 35 8).toNat) hz
  refine go_ifq PM29 (k := 1) (p1 := 15) (p2 := 4) (L' := [some (.inr (.inr (some 35))), some (.inl p1), none]) (st' := []) (w' := (SH, dt)) rfl (z_lt (a := p1) (by first | exact bnd h_p1 (by decide) (by decide) | exact ⟨by omega, by omega⟩)) (fun c3 => ?_) (fun c3 => ?_)
  · exfalso; omega
  · skip
    refine go_ifq PM29 (k := 6) (p1 := 16) (p2 := 15) (L' := [some (.inr (.inr (some 35))), some (.inl p1), none]) (st' := []) (w' := (SH, dt)) rfl (c_le (a := p1 + 4) (b := 64) (by first | exact bndp h_p1 (by decide) (by decide) | exact ⟨by omega, by omega⟩) ⟨by decide, by decide⟩) (fun c4 => ?_) (fun c4 => ?_)
    · skip
      refine go_toq PM29 (k := 1) (pc' := 17) (L' := [some (.inr (.inr (some 35))), some (.inl p1), none]) (st' := [.inr (.inr (some 35))]) (w' := (SH, dt)) rfl ?_
      refine go_callq PM29 PM20 (Q' := _) rfl rfl rfl rfl (sp_X1_token_f L xs sio (d + 20) dt hI K V S t hz ht  (by first | with_reducible assumption | exact unhid (by with_reducible assumption) | exact TKc_fr h_p0 hF (by decide) (by decide) (by decide) (by fail) | fail) (by first | with_reducible assumption | exact unhid (by with_reducible assumption) | exact TKc_fr h_p0 hF (by decide) (by decide) (by decide) (by fail) | fail) (by first | with_reducible assumption | exact unhid (by with_reducible assumption) | exact TKc_fr h_p0 hF (by decide) (by decide) (by decide) (by fail) | fail)) ?_
      rintro _ _ ⟨rfl, h5⟩
      refine ⟨rfl, ?_⟩
      rcases h5 with ⟨v_h5, rfl, h5r, h5⟩
      refine go_ifq PM29 (k := 1) (p1 := 30) (p2 := 26) (L' := [some (.inr (.inr (some 35))), some (.inl p1), none]) (st' := []) (w' := (SH, dt)) rfl (c_ne (a := v_h5) (b := 1001) (by first | exact bnd h5r (by decide) (by decide) | exact ⟨by fail, by fail⟩) ⟨by decide, by decide⟩) (fun c7 => ?_) (fun c7 => ?_)
      · skip
        replace c7 := hid c7
        exfalso; (have z_ := unhid c7; omega)
      · skip
        refine go_toq PM29 (k := 8) (pc' := 39) (L' := [some (.inr (.inr (some 35))), some (.inl p1), some (.inl 1)]) (st' := [.inl ((dt 35 8) + 1), .inr (.inr (some 35))]) (w' := (SH, dt)) rfl ?_
        have hI8 : InvC (u2 dt 35 8 ((dt 35 8) + 1)) := InvC_u2 hI (lo := -2147483648) (hi := 2147483647) rfl rfl rfl (by omega) (by omega)
        have hF9 : Fr [35, 41, 42] dt (u2 dt 35 8 ((dt 35 8) + 1)) := Fr_u2 hF (by decide)
        have w10 : (u2 dt 35 8 ((dt 35 8) + 1)) 35 1 = dt 35 1 := rfl
        have w11 : (u2 dt 35 8 ((dt 35 8) + 1)) 35 2 = dt 35 2 := rfl
        have w12 : (u2 dt 35 8 ((dt 35 8) + 1)) 35 3 = dt 35 3 := rfl
        have w13 : (u2 dt 35 8 ((dt 35 8) + 1)) 35 7 = dt 35 7 := rfl
        have w14 : (u2 dt 35 8 ((dt 35 8) + 1)) 35 8 = (dt 35 8) + 1 := rfl
        have w15 : (u2 dt 35 8 ((dt 35 8) + 1)) 35 12 = dt 35 12 := rfl
        have lv18 := KLIVE hz (D := dt) (by omega) (by omega) (by (have z_ := unhid h_p2; omega))
        have X17 : PX S t (gLine K V) (gL1 K V) dt (u2 dt 35 8 ((dt 35 8) + 1)) := PX_st PX_0 (SPX_inc hz (by omega) (by omega) (by omega) (by omega) (by omega)) (fun hl => by first | (show (gLine K V) (dt 35 8).toNat = (gL1 K V) ((dt 35 8).toNat + 1); exact gLine_p (by omega)) | (exfalso; fail))
        have R19 : ∀ j : Nat, (j : Int) < p1 ∨ p1 + 4 ≤ (j : Int) → (u2 dt 35 8 ((dt 35 8) + 1)) 41 j = dt 41 j := fun j hj => (u2_ne (by omega)).trans ((fun _ _ => rfl) j hj)
        refine go_smpq PM29 (L' := [some (.inr (.inr (some 35))), some (.inl p1), some (.inl 1)]) (st' := []) (w' := (SH, (u2 dt 35 8 ((dt 35 8) + 1)))) rfl rfl (s_pf rfl rfl rfl rfl ⟨by omega, by omega⟩) ?_
        refine go_toq PM29 (k := 7) (pc' := 62) (L' := [some (.inr (.inr (some 35))), some (.inl p1), some (.inl 1)]) (st' := [.inl 8, .inl p1, .inr (.inr (some 41))]) (w' := (SH, (u2 dt 35 8 ((dt 35 8) + 1)))) rfl ?_
        have hI20 : InvC (u2 (u2 dt 35 8 ((dt 35 8) + 1)) 41 (p1).toNat 8) := InvC_u2 hI8 (lo := -2147483648) (hi := 2147483647) rfl rfl rfl (by decide) (by decide)
        have hF21 : Fr [35, 41, 42] dt (u2 (u2 dt 35 8 ((dt 35 8) + 1)) 41 (p1).toNat 8) := Fr_u2 hF9 (by decide)
        have w22 : (u2 (u2 dt 35 8 ((dt 35 8) + 1)) 41 (p1).toNat 8) 35 1 = dt 35 1 := w10
        have w23 : (u2 (u2 dt 35 8 ((dt 35 8) + 1)) 41 (p1).toNat 8) 35 2 = dt 35 2 := w11
        have w24 : (u2 (u2 dt 35 8 ((dt 35 8) + 1)) 41 (p1).toNat 8) 35 3 = dt 35 3 := w12
        have w25 : (u2 (u2 dt 35 8 ((dt 35 8) + 1)) 41 (p1).toNat 8) 35 7 = dt 35 7 := w13
        have w26 : (u2 (u2 dt 35 8 ((dt 35 8) + 1)) 41 (p1).toNat 8) 35 8 = (dt 35 8) + 1 := w14
        have w27 : (u2 (u2 dt 35 8 ((dt 35 8) + 1)) 41 (p1).toNat 8) 35 12 = dt 35 12 := w15
        have X29 : PX S t (gLine K V) (gL1 K V) dt (u2 (u2 dt 35 8 ((dt 35 8) + 1)) 41 (p1).toNat 8) := PX_sm X17 rfl rfl rfl
        have kk30 : K ((u2 (u2 dt 35 8 ((dt 35 8) + 1)) 41 (p1).toNat 8) 35 8).toNat = K ((u2 dt 35 8 ((dt 35 8) + 1)) 35 8).toNat := rfl
        have kk31 : V ((u2 (u2 dt 35 8 ((dt 35 8) + 1)) 41 (p1).toNat 8) 35 8).toNat = V ((u2 dt 35 8 ((dt 35 8) + 1)) 35 8).toNat := rfl
        have R32 : ∀ j : Nat, (j : Int) < p1 ∨ p1 + 4 ≤ (j : Int) → (u2 (u2 dt 35 8 ((dt 35 8) + 1)) 41 (p1).toNat 8) 41 j = dt 41 j := fun j hj => (u2_ne (by omega)).trans (R19 j hj)
        have R33 : (u2 (u2 dt 35 8 ((dt 35 8) + 1)) 41 (p1).toNat 8) 35 2 = 0 → (u2 (u2 dt 35 8 ((dt 35 8) + 1)) 41 (p1).toNat 8) 41 p1.toNat = lnR K V (dt 35 8).toNat := fun z_ => u2_eq.trans (lnR_p (by omega)).symm
        replace R33 := hid R33
        clear w10 w12 w13 w15
        refine go_smpq PM29 (L' := [some (.inr (.inr (some 35))), some (.inl p1), some (.inl 1)]) (st' := []) (w' := (SH, (u2 (u2 dt 35 8 ((dt 35 8) + 1)) 41 (p1).toNat 8))) rfl rfl (s_iast (n := 64) rfl (by first | exact bndx h_p1 (by decide) (by decide) | exact ⟨by omega, by omega⟩) ⟨by decide, by decide⟩) ?_
        refine go_toq PM29 (k := 7) (pc' := 74) (L' := [some (.inr (.inr (some 35))), some (.inl p1), some (.inl 1)]) (st' := [.inl (dt 35 12), .inl (p1 + 1), .inr (.inr (some 41))]) (w' := (SH, (u2 (u2 dt 35 8 ((dt 35 8) + 1)) 41 (p1).toNat 8))) rfl ?_
        have hI34 : InvC (u2 (u2 (u2 dt 35 8 ((dt 35 8) + 1)) 41 (p1).toNat 8) 41 ((p1 + 1).toNat) (dt 35 12)) := InvC_u2 hI20 (lo := -2147483648) (hi := 2147483647) rfl rfl rfl (by first | exact bnd1 r1 (by decide) | fail) (by first | exact bnd2 r1 (by decide) | fail)
        have hF35 : Fr [35, 41, 42] dt (u2 (u2 (u2 dt 35 8 ((dt 35 8) + 1)) 41 (p1).toNat 8) 41 ((p1 + 1).toNat) (dt 35 12)) := Fr_u2 hF21 (by decide)
        have w36 : (u2 (u2 (u2 dt 35 8 ((dt 35 8) + 1)) 41 (p1).toNat 8) 41 ((p1 + 1).toNat) (dt 35 12)) 35 1 = dt 35 1 := w22
        have w37 : (u2 (u2 (u2 dt 35 8 ((dt 35 8) + 1)) 41 (p1).toNat 8) 41 ((p1 + 1).toNat) (dt 35 12)) 35 2 = dt 35 2 := w23
        have w38 : (u2 (u2 (u2 dt 35 8 ((dt 35 8) + 1)) 41 (p1).toNat 8) 41 ((p1 + 1).toNat) (dt 35 12)) 35 3 = dt 35 3 := w24
        have w39 : (u2 (u2 (u2 dt 35 8 ((dt 35 8) + 1)) 41 (p1).toNat 8) 41 ((p1 + 1).toNat) (dt 35 12)) 35 7 = dt 35 7 := w25
        have w40 : (u2 (u2 (u2 dt 35 8 ((dt 35 8) + 1)) 41 (p1).toNat 8) 41 ((p1 + 1).toNat) (dt 35 12)) 35 8 = (dt 35 8) + 1 := w26
        have w41 : (u2 (u2 (u2 dt 35 8 ((dt 35 8) + 1)) 41 (p1).toNat 8) 41 ((p1 + 1).toNat) (dt 35 12)) 35 12 = dt 35 12 := w27
        have X43 : PX S t (gLine K V) (gL1 K V) dt (u2 (u2 (u2 dt 35 8 ((dt 35 8) + 1)) 41 (p1).toNat 8) 41 ((p1 + 1).toNat) (dt 35 12)) := PX_sm X29 rfl rfl rfl
        have kk44 : K ((u2 (u2 (u2 dt 35 8 ((dt 35 8) + 1)) 41 (p1).toNat 8) 41 ((p1 + 1).toNat) (dt 35 12)) 35 8).toNat = K ((u2 (u2 dt 35 8 ((dt 35 8) + 1)) 41 (p1).toNat 8) 35 8).toNat := rfl
        have kk45 : V ((u2 (u2 (u2 dt 35 8 ((dt 35 8) + 1)) 41 (p1).toNat 8) 41 ((p1 + 1).toNat) (dt 35 12)) 35 8).toNat = V ((u2 (u2 dt 35 8 ((dt 35 8) + 1)) 41 (p1).toNat 8) 35 8).toNat := rfl
        have R46 : (u2 (u2 (u2 dt 35 8 ((dt 35 8) + 1)) 41 (p1).toNat 8) 41 ((p1 + 1).toNat) (dt 35 12)) 35 2 = 0 → (u2 (u2 (u2 dt 35 8 ((dt 35 8) + 1)) 41 (p1).toNat 8) 41 ((p1 + 1).toNat) (dt 35 12)) 41 p1.toNat = lnR K V (dt 35 8).toNat := fun z_ => (u2_ne (by omega)).trans (R33 z_)
        replace R46 := hid R46
        have R47 : ∀ j : Nat, (j : Int) < p1 ∨ p1 + 4 ≤ (j : Int) → (u2 (u2 (u2 dt 35 8 ((dt 35 8) + 1)) 41 (p1).toNat 8) 41 ((p1 + 1).toNat) (dt 35 12)) 41 j = dt 41 j := fun j hj => (u2_ne (by omega)).trans (R32 j hj)
        have R48 : (u2 (u2 (u2 dt 35 8 ((dt 35 8) + 1)) 41 (p1).toNat 8) 41 ((p1 + 1).toNat) (dt 35 12)) 41 (p1 + 1).toNat = dt 35 12 := u2_eq.trans (by omega)
        clear w22 w24 w25 w27
        refine go_smpq PM29 (L' := [some (.inr (.inr (some 35))), some (.inl p1), some (.inl 1)]) (st' := []) (w' := (SH, (u2 (u2 (u2 dt 35 8 ((dt 35 8) + 1)) 41 (p1).toNat 8) 41 ((p1 + 1).toNat) (dt 35 12)))) rfl rfl (s_iast (n := 64) rfl ⟨by omega, by omega⟩ (by first | exact bnd r1 (by decide) (by decide) | exact ⟨by fail, by fail⟩)) ?_
        refine go_toq PM29 (k := 1) (pc' := 76) (L' := [some (.inr (.inr (some 35))), some (.inl p1), some (.inl 1)]) (st' := [.inr (.inr (some 35))]) (w' := (SH, (u2 (u2 (u2 dt 35 8 ((dt 35 8) + 1)) 41 (p1).toNat 8) 41 ((p1 + 1).toNat) (dt 35 12)))) rfl ?_
        refine go_callq PM29 PM33 (Q' := _) rfl rfl rfl rfl (sp_X1_sum_f L xs sio (d + 18) (u2 (u2 (u2 dt 35 8 ((dt 35 8) + 1)) 41 (p1).toNat 8) 41 ((p1 + 1).toNat) (dt 35 12)) hI34 K V S t hz ht  (by first | with_reducible assumption | exact unhid (by with_reducible assumption) | exact TKc_fr h_p0 hF35 (by decide) (by decide) (by decide) (by omega) | fail) (by first | with_reducible assumption | exact unhid (by with_reducible assumption) | exact TKc_fr h_p0 hF35 (by decide) (by decide) (by decide) (by omega) | omega) (by first | with_reducible assumption | exact unhid (by with_reducible assumption) | exact TKc_fr h_p0 hF35 (by decide) (by decide) (by decide) (by omega) | omega) (by first | with_reducible assumption | exact unhid (by with_reducible assumption) | exact TKc_fr h_p0 hF35 (by decide) (by decide) (by decide) (by omega) | (have z_ := unhid h_p4; omega))) ?_
        rintro _ _ ⟨dt50, rfl, hI51, hF52, h49⟩
        refine ⟨rfl, ?_⟩
        have hF53 : Fr [35, 41, 42] dt dt50 := Fr_tr hF35 hF52 (by decide)
        rcases h49 with ⟨rfl, h49⟩
        obtain ⟨h49_0, h49_1, h49_2, h49_3, h49_4, h49_5, h49_6, h49_7⟩ := h49
        replace h49_2 := hid h49_2
        replace h49_4 := hid h49_4
        replace h49_5 := hid h49_5
        have w54 : dt50 35 1 = dt 35 1 := h49_6.trans w36
        have w55 : dt50 35 7 = dt 35 7 := h49_7.trans w39
        have X56 : PX S t (gLine K V) (gL2 K V) dt dt50 := PX_st X43 h49_0 (fun hl => by first | exact rfl | (exfalso; fail))
        have Q57 : QX (eLn K V) (eLb K V) dt dt50 := QX_st QX_0 (fun z_ => by have y_ := SPX_ok h49_0 (by first | with_reducible assumption | exact unhid (by with_reducible assumption) | omega) z_; first | exact y_.1 | fail) (by omega) (fun z_ => CDX_l (D' := (u2 (u2 (u2 dt 35 8 ((dt 35 8) + 1)) 41 (p1).toNat 8) 41 ((p1 + 1).toNat) (dt 35 12))) rfl (fun j => u2_ne (by omega)) ((fun z_ => h49_4 z_) z_)) (fun z_ => by have y_ := SPX_ok h49_0 (by first | with_reducible assumption | exact unhid (by with_reducible assumption) | omega) z_; (try rw [y_.2.2]); have hl := y_.2.1; rw [show ((u2 (u2 (u2 dt 35 8 ((dt 35 8) + 1)) 41 (p1).toNat 8) 41 ((p1 + 1).toNat) (dt 35 12)) 35 8).toNat = (dt 35 8).toNat + 1 by first | with_reducible assumption | exact unhid (by with_reducible assumption) | omega] at hl ⊢; first | done | (exact eLn_p (by omega)))
        have ql58 := fun (z_ : dt50 35 2 = 0) => (SPX_ok h49_0 (by first | with_reducible assumption | exact unhid (by with_reducible assumption) | omega) z_).1
        replace ql58 := hid ql58
        have ql59 := hid (fun (z_ : dt50 35 2 = 0) => (Q57 z_).1)
        have se60 : dt50 35 2 = 0 → dt50 35 12 = dt 35 12 + ((eE K V (lnP K (dt 35 8).toNat)).length : Int) := fun z_ => by have y_ := (h49_4 z_).1; rw [show ((u2 (u2 (u2 dt 35 8 ((dt 35 8) + 1)) 41 (p1).toNat 8) 41 ((p1 + 1).toNat) (dt 35 12)) 35 8).toNat = lnP K (dt 35 8).toNat from (lnP_p (by omega)).trans (by omega) |>.symm] at y_; omega
        replace se60 := hid se60
        have R61 : dt50 35 2 = 0 → dt50 41 p1.toNat = lnR K V (dt 35 8).toNat := fun z_ => ((hF52 41 (by decide) _).trans (R46 (by omega)))
        replace R61 := hid R61
        have R62 : dt50 41 (p1 + 1).toNat = dt 35 12 := (hF52 41 (by decide) _).trans R48
        have R63 : ∀ j : Nat, (j : Int) < p1 ∨ p1 + 4 ≤ (j : Int) → dt50 41 j = dt 41 j := fun j hj => (hF52 41 (by decide) j).trans (R47 j hj)
        clear h49_6 w36 h49_7 w39
        have r64 : 0 ≤ dt50 35 12 ∧ dt50 35 12 ≤ 500 := InvC_get hI51 35 12 rfl rfl
        refine go_toq PM29 (k := 7) (pc' := 90) (L' := [some (.inr (.inr (some 35))), some (.inl p1), some (.inl 1)]) (st' := [.inl (dt50 35 12), .inl (p1 + 2), .inr (.inr (some 41))]) (w' := (SH, dt50)) rfl ?_
        have hI65 : InvC (u2 dt50 41 ((p1 + 2).toNat) (dt50 35 12)) := InvC_u2 hI51 (lo := -2147483648) (hi := 2147483647) rfl rfl rfl (by first | exact bnd1 r64 (by decide) | fail) (by first | exact bnd2 r64 (by decide) | fail)
        have hF66 : Fr [35, 41, 42] dt (u2 dt50 41 ((p1 + 2).toNat) (dt50 35 12)) := Fr_u2 hF53 (by decide)
        have w67 : (u2 dt50 41 ((p1 + 2).toNat) (dt50 35 12)) 35 1 = dt 35 1 := w54
        have w68 : (u2 dt50 41 ((p1 + 2).toNat) (dt50 35 12)) 35 2 = dt50 35 2 := rfl
        have w69 : (u2 dt50 41 ((p1 + 2).toNat) (dt50 35 12)) 35 3 = dt50 35 3 := rfl
        have w70 : (u2 dt50 41 ((p1 + 2).toNat) (dt50 35 12)) 35 7 = dt 35 7 := w55
        have w71 : (u2 dt50 41 ((p1 + 2).toNat) (dt50 35 12)) 35 8 = dt50 35 8 := rfl
        have w72 : (u2 dt50 41 ((p1 + 2).toNat) (dt50 35 12)) 35 12 = dt50 35 12 := rfl
        have Q73 : QX (eLn K V) (eLb K V) dt (u2 dt50 41 ((p1 + 2).toNat) (dt50 35 12)) := QX_sm Q57 rfl rfl rfl (fun j => u2_ne (by omega))
        have ql74 := hid (fun (z_ : (u2 dt50 41 ((p1 + 2).toNat) (dt50 35 12)) 35 2 = 0) => (Q73 z_).1)
        have X75 : PX S t (gLine K V) (gL2 K V) dt (u2 dt50 41 ((p1 + 2).toNat) (dt50 35 12)) := PX_sm X56 rfl rfl rfl
        have kk76 : K ((u2 dt50 41 ((p1 + 2).toNat) (dt50 35 12)) 35 8).toNat = K (dt50 35 8).toNat := rfl
        have kk77 : V ((u2 dt50 41 ((p1 + 2).toNat) (dt50 35 12)) 35 8).toNat = V (dt50 35 8).toNat := rfl
        have u32_ := hid (And.intro (unhid h_p2) (And.intro (unhid h_p4) (And.intro (unhid hv0) (And.intro (unhid h49_2) (And.intro (unhid h49_5) (And.intro (unhid ql58) (And.intro (unhid ql59) (unhid ql74))))))))
        have R78 : (u2 dt50 41 ((p1 + 2).toNat) (dt50 35 12)) 35 2 = 0 → (u2 dt50 41 ((p1 + 2).toNat) (dt50 35 12)) 41 p1.toNat = lnR K V (dt 35 8).toNat := fun z_ => (u2_ne (by omega)).trans (R61 z_)
        replace R78 := hid R78
        have R79 : (u2 dt50 41 ((p1 + 2).toNat) (dt50 35 12)) 41 (p1 + 1).toNat = dt 35 12 := (u2_ne (by omega)).trans R62
        have R80 : ∀ j : Nat, (j : Int) < p1 ∨ p1 + 4 ≤ (j : Int) → (u2 dt50 41 ((p1 + 2).toNat) (dt50 35 12)) 41 j = dt 41 j := fun j hj => (u2_ne (by omega)).trans (R63 j hj)
        have R81 : (u2 dt50 41 ((p1 + 2).toNat) (dt50 35 12)) 35 2 = 0 → (u2 dt50 41 ((p1 + 2).toNat) (dt50 35 12)) 41 (p1 + 2).toNat = dt 35 12 + ((eE K V (lnP K (dt 35 8).toNat)).length : Int) := fun z_ => u2_eq.trans (se60 z_)
        replace R81 := hid R81
        refine go_smpq PM29 (L' := [some (.inr (.inr (some 35))), some (.inl p1), some (.inl 1)]) (st' := []) (w' := (SH, (u2 dt50 41 ((p1 + 2).toNat) (dt50 35 12)))) rfl rfl (s_iast (n := 64) rfl ⟨by omega, by omega⟩ (by first | exact bnd r64 (by decide) (by decide) | exact ⟨by fail, by fail⟩)) ?_
        refine go_toq PM29 (k := 1) (pc' := 92) (L' := [some (.inr (.inr (some 35))), some (.inl p1), some (.inl 1)]) (st' := [.inr (.inr (some 35))]) (w' := (SH, (u2 dt50 41 ((p1 + 2).toNat) (dt50 35 12)))) rfl ?_
        refine go_callq PM29 PM20 (Q' := _) rfl rfl rfl rfl (sp_X1_token_f L xs sio (d + 20) (u2 dt50 41 ((p1 + 2).toNat) (dt50 35 12)) hI65 K V S t hz ht  (by first | with_reducible assumption | exact unhid (by with_reducible assumption) | exact TKc_fr h_p0 hF66 (by decide) (by decide) (by decide) (by omega) | fail) (by first | with_reducible assumption | exact unhid (by with_reducible assumption) | exact TKc_fr h_p0 hF66 (by decide) (by decide) (by decide) (by omega) | omega) (by first | with_reducible assumption | exact unhid (by with_reducible assumption) | exact TKc_fr h_p0 hF66 (by decide) (by decide) (by decide) (by omega) | (have z_ := unhid h49_2; omega))) ?_
        rintro _ _ ⟨rfl, h82⟩
        refine ⟨rfl, ?_⟩
        rcases h82 with ⟨v_h82, rfl, h82r, h82⟩
        refine go_ifq PM29 (k := 1) (p1 := 116) (p2 := 101) (L' := [some (.inr (.inr (some 35))), some (.inl p1), some (.inl 1)]) (st' := []) (w' := (SH, (u2 dt50 41 ((p1 + 2).toNat) (dt50 35 12)))) rfl (c_ne (a := v_h82) (b := 1002) (by first | exact bnd h82r (by decide) (by decide) | exact ⟨by fail, by fail⟩) ⟨by decide, by decide⟩) (fun c84 => ?_) (fun c84 => ?_)
        · skip
          replace c84 := hid c84
          refine go_toq PM29 (k := 7) (pc' := 127) (L' := [some (.inr (.inr (some 35))), some (.inl p1), some (.inl 1)]) (st' := [.inl (dt50 35 12), .inl (p1 + 3), .inr (.inr (some 41))]) (w' := (SH, (u2 dt50 41 ((p1 + 2).toNat) (dt50 35 12)))) rfl ?_
          have hI85 : InvC (u2 (u2 dt50 41 ((p1 + 2).toNat) (dt50 35 12)) 41 ((p1 + 3).toNat) (dt50 35 12)) := InvC_u2 hI65 (lo := -2147483648) (hi := 2147483647) rfl rfl rfl (by first | exact bnd1 r64 (by decide) | fail) (by first | exact bnd2 r64 (by decide) | fail)
          have hF86 : Fr [35, 41, 42] dt (u2 (u2 dt50 41 ((p1 + 2).toNat) (dt50 35 12)) 41 ((p1 + 3).toNat) (dt50 35 12)) := Fr_u2 hF66 (by decide)
          have w87 : (u2 (u2 dt50 41 ((p1 + 2).toNat) (dt50 35 12)) 41 ((p1 + 3).toNat) (dt50 35 12)) 35 1 = dt 35 1 := w67
          have w88 : (u2 (u2 dt50 41 ((p1 + 2).toNat) (dt50 35 12)) 41 ((p1 + 3).toNat) (dt50 35 12)) 35 2 = dt50 35 2 := w68
          have w89 : (u2 (u2 dt50 41 ((p1 + 2).toNat) (dt50 35 12)) 41 ((p1 + 3).toNat) (dt50 35 12)) 35 3 = dt50 35 3 := w69
          have w90 : (u2 (u2 dt50 41 ((p1 + 2).toNat) (dt50 35 12)) 41 ((p1 + 3).toNat) (dt50 35 12)) 35 7 = dt 35 7 := w70
          have w91 : (u2 (u2 dt50 41 ((p1 + 2).toNat) (dt50 35 12)) 41 ((p1 + 3).toNat) (dt50 35 12)) 35 8 = dt50 35 8 := w71
          have w92 : (u2 (u2 dt50 41 ((p1 + 2).toNat) (dt50 35 12)) 41 ((p1 + 3).toNat) (dt50 35 12)) 35 12 = dt50 35 12 := w72
          have Q93 : QX (eLn K V) (eLb K V) dt (u2 (u2 dt50 41 ((p1 + 2).toNat) (dt50 35 12)) 41 ((p1 + 3).toNat) (dt50 35 12)) := QX_sm Q73 rfl rfl rfl (fun j => u2_ne (by omega))
          have ql94 := hid (fun (z_ : (u2 (u2 dt50 41 ((p1 + 2).toNat) (dt50 35 12)) 41 ((p1 + 3).toNat) (dt50 35 12)) 35 2 = 0) => (Q93 z_).1)
          have X95 : PX S t (gLine K V) (gL2 K V) dt (u2 (u2 dt50 41 ((p1 + 2).toNat) (dt50 35 12)) 41 ((p1 + 3).toNat) (dt50 35 12)) := PX_sm X75 rfl rfl rfl
          have kk96 : K ((u2 (u2 dt50 41 ((p1 + 2).toNat) (dt50 35 12)) 41 ((p1 + 3).toNat) (dt50 35 12)) 35 8).toNat = K ((u2 dt50 41 ((p1 + 2).toNat) (dt50 35 12)) 35 8).toNat := rfl
          have kk97 : V ((u2 (u2 dt50 41 ((p1 + 2).toNat) (dt50 35 12)) 41 ((p1 + 3).toNat) (dt50 35 12)) 35 8).toNat = V ((u2 dt50 41 ((p1 + 2).toNat) (dt50 35 12)) 35 8).toNat := rfl
          have R98 : (u2 (u2 dt50 41 ((p1 + 2).toNat) (dt50 35 12)) 41 ((p1 + 3).toNat) (dt50 35 12)) 35 2 = 0 → (u2 (u2 dt50 41 ((p1 + 2).toNat) (dt50 35 12)) 41 ((p1 + 3).toNat) (dt50 35 12)) 41 p1.toNat = lnR K V (dt 35 8).toNat := fun z_ => (u2_ne (by omega)).trans (R78 z_)
          replace R98 := hid R98
          have R99 : (u2 (u2 dt50 41 ((p1 + 2).toNat) (dt50 35 12)) 41 ((p1 + 3).toNat) (dt50 35 12)) 41 (p1 + 1).toNat = dt 35 12 := (u2_ne (by omega)).trans R79
          have R100 : (u2 (u2 dt50 41 ((p1 + 2).toNat) (dt50 35 12)) 41 ((p1 + 3).toNat) (dt50 35 12)) 35 2 = 0 → (u2 (u2 dt50 41 ((p1 + 2).toNat) (dt50 35 12)) 41 ((p1 + 3).toNat) (dt50 35 12)) 41 (p1 + 2).toNat = dt 35 12 + ((eE K V (lnP K (dt 35 8).toNat)).length : Int) := fun z_ => (u2_ne (by omega)).trans (R81 z_)
          replace R100 := hid R100
          have R101 : ∀ j : Nat, (j : Int) < p1 ∨ p1 + 4 ≤ (j : Int) → (u2 (u2 dt50 41 ((p1 + 2).toNat) (dt50 35 12)) 41 ((p1 + 3).toNat) (dt50 35 12)) 41 j = dt 41 j := fun j hj => (u2_ne (by omega)).trans (R80 j hj)
          have R102 : (u2 (u2 dt50 41 ((p1 + 2).toNat) (dt50 35 12)) 41 ((p1 + 3).toNat) (dt50 35 12)) 41 (p1 + 3).toNat = dt50 35 12 := u2_eq
          clear w67 w69 w70 w72
          refine go_smpq PM29 (L' := [some (.inr (.inr (some 35))), some (.inl p1), some (.inl 1)]) (st' := []) (w' := (SH, (u2 (u2 dt50 41 ((p1 + 2).toNat) (dt50 35 12)) 41 ((p1 + 3).toNat) (dt50 35 12)))) rfl rfl (s_iast (n := 64) rfl ⟨by omega, by omega⟩ (by first | exact bnd r64 (by decide) (by decide) | exact ⟨by fail, by fail⟩)) ?_
          refine go_toq PM29 (k := 2) (pc' := 131) (L' := [some (.inr (.inr (some 35))), some (.inl p1), some (.inl 1)]) (st' := [.inl 59, .inr (.inr (some 35))]) (w' := (SH, (u2 (u2 dt50 41 ((p1 + 2).toNat) (dt50 35 12)) 41 ((p1 + 3).toNat) (dt50 35 12)))) rfl ?_
          refine go_callq PM29 PM22 (Q' := _) rfl rfl rfl rfl (sp_X1_skip_f L xs sio (d + 19) (u2 (u2 dt50 41 ((p1 + 2).toNat) (dt50 35 12)) 41 ((p1 + 3).toNat) (dt50 35 12)) hI85 K V S t hz ht 59 ⟨by decide, by decide⟩ (by first | with_reducible assumption | exact unhid (by with_reducible assumption) | exact TKc_fr h_p0 hF86 (by decide) (by decide) (by decide) (by omega) | fail) (by first | with_reducible assumption | exact unhid (by with_reducible assumption) | exact TKc_fr h_p0 hF86 (by decide) (by decide) (by decide) (by omega) | omega) (by first | with_reducible assumption | exact unhid (by with_reducible assumption) | exact TKc_fr h_p0 hF86 (by decide) (by decide) (by decide) (by omega) | (have z_ := unhid h49_2; omega))) ?_
          rintro _ _ ⟨dt104, rfl, hI105, hF106, h103⟩
          refine ⟨rfl, ?_⟩
          have hF107 : Fr [35, 41, 42] dt dt104 := Fr_tr hF86 hF106 (by decide)
          rcases h103 with ⟨rfl, h103⟩
          obtain ⟨h103_0, h103_1, h103_2, h103_3, h103_4, h103_5, h103_6⟩ := h103
          replace h103_2 := hid h103_2
          have w108 : dt104 35 1 = dt 35 1 := h103_4.trans w87
          have w109 : dt104 35 7 = dt 35 7 := h103_5.trans w90
          have w110 : dt104 35 12 = dt50 35 12 := h103_6.trans w92
          have X111 : PX S t (gLine K V) gOk dt dt104 := PX_st X95 h103_0 (fun hl => by first | (exact gL2_n (by (have z_ := unhid c84; omega))) | (exfalso; fail))
          have Q112 : QX (eLn K V) eNl dt dt104 := QX_st Q93 (fun z_ => by have y_ := SPX_ok h103_0 (by first | with_reducible assumption | exact unhid (by with_reducible assumption) | (have z_ := unhid h49_2; omega)) z_; first | exact y_.1 | fail) (by omega) (fun _ => CDX_sm (by omega) (fun j => hF106 42 (by decide) j)) (fun z_ => by have y_ := SPX_ok h103_0 (by first | with_reducible assumption | exact unhid (by with_reducible assumption) | (have z_ := unhid h49_2; omega)) z_; (try rw [y_.2.2]); have hl := y_.2.1; first | done | (exact (eLb_0 (by (have z_ := unhid c84; omega))).trans rfl))
          have ql113 := fun (z_ : dt104 35 2 = 0) => (SPX_ok h103_0 (by first | with_reducible assumption | exact unhid (by with_reducible assumption) | (have z_ := unhid h49_2; omega)) z_).1
          replace ql113 := hid ql113
          have ql114 := hid (fun (z_ : dt104 35 2 = 0) => (Q112 z_).1)
          have u39_ := hid (And.intro (unhid h_p2) (And.intro (unhid h_p4) (And.intro (unhid hv0) (And.intro (unhid h49_2) (And.intro (unhid h49_5) (And.intro (unhid ql58) (And.intro (unhid ql59) (And.intro (unhid ql74) (And.intro (unhid c84) (And.intro (unhid ql94) (And.intro (unhid h103_2) (And.intro (unhid ql113) (unhid ql114)))))))))))))
          have R115 : dt104 35 2 = 0 → dt104 41 p1.toNat = lnR K V (dt 35 8).toNat := fun z_ => ((hF106 41 (by decide) _).trans (R98 (by (have z_ := unhid ql113; omega))))
          replace R115 := hid R115
          have R116 : dt104 41 (p1 + 1).toNat = dt 35 12 := (hF106 41 (by decide) _).trans R99
          have R117 : dt104 35 2 = 0 → dt104 41 (p1 + 2).toNat = dt 35 12 + ((eE K V (lnP K (dt 35 8).toNat)).length : Int) := fun z_ => ((hF106 41 (by decide) _).trans (R100 (by (have z_ := unhid ql113; omega))))
          replace R117 := hid R117
          have R118 : dt104 41 (p1 + 3).toNat = dt50 35 12 := (hF106 41 (by decide) _).trans R102
          have R119 : ∀ j : Nat, (j : Int) < p1 ∨ p1 + 4 ≤ (j : Int) → dt104 41 j = dt 41 j := fun j hj => (hF106 41 (by decide) j).trans (R101 j hj)
          clear h103_4 w87 h103_5 w90 h103_6 w92
          refine go_retq PM29 (k := 0) (r := none) (w1 := (SH, dt104)) rfl ?_
          exact ⟨dt104, rfl, hI105, hF107, ⟨rfl, ⟨by exact PX_e X111 (by omega), by first | exact True.intro | with_reducible assumption | exact unhid (by with_reducible assumption) | rfl | fail | trivial, by first | exact True.intro | with_reducible assumption | exact unhid (by with_reducible assumption) | rfl | fail | trivial, by first | exact True.intro | with_reducible assumption | exact unhid (by with_reducible assumption) | rfl | omega | trivial, by first | exact True.intro | with_reducible assumption | exact unhid (by with_reducible assumption) | rfl | omega | trivial, by first | (intro z_; exfalso; fail) | (intro z_; exact ⟨R115 z_, R116, R117 z_, (R118).trans (by omega)⟩), by first | exact fun _ _ => rfl | exact R119, by first | (intro z_; exfalso; fail) | exact QX_e Q112, by first | exact True.intro | with_reducible assumption | exact unhid (by with_reducible assumption) | rfl | (have z_ := unhid u39_; omega) | trivial, by first | exact True.intro | with_reducible assumption | exact unhid (by with_reducible assumption) | rfl | fail | trivial, by first | exact True.intro | with_reducible assumption | exact unhid (by with_reducible assumption) | rfl | fail | trivial⟩⟩⟩
        · skip
          refine go_toq PM29 (k := 5) (pc' := 108) (L' := [some (.inr (.inr (some 35))), some (.inl p1), some (.inl 1)]) (st' := [.inl ((dt50 35 8) + 1), .inr (.inr (some 35))]) (w' := (SH, (u2 dt50 41 ((p1 + 2).toNat) (dt50 35 12)))) rfl ?_
          have hI120 : InvC (u2 (u2 dt50 41 ((p1 + 2).toNat) (dt50 35 12)) 35 8 ((dt50 35 8) + 1)) := InvC_u2 hI65 (lo := -2147483648) (hi := 2147483647) rfl rfl rfl (by omega) (by omega)
          have hF121 : Fr [35, 41, 42] dt (u2 (u2 dt50 41 ((p1 + 2).toNat) (dt50 35 12)) 35 8 ((dt50 35 8) + 1)) := Fr_u2 hF66 (by decide)
          have w122 : (u2 (u2 dt50 41 ((p1 + 2).toNat) (dt50 35 12)) 35 8 ((dt50 35 8) + 1)) 35 1 = dt 35 1 := w67
          have w123 : (u2 (u2 dt50 41 ((p1 + 2).toNat) (dt50 35 12)) 35 8 ((dt50 35 8) + 1)) 35 2 = dt50 35 2 := w68
          have w124 : (u2 (u2 dt50 41 ((p1 + 2).toNat) (dt50 35 12)) 35 8 ((dt50 35 8) + 1)) 35 3 = dt50 35 3 := w69
          have w125 : (u2 (u2 dt50 41 ((p1 + 2).toNat) (dt50 35 12)) 35 8 ((dt50 35 8) + 1)) 35 7 = dt 35 7 := w70
          have w126 : (u2 (u2 dt50 41 ((p1 + 2).toNat) (dt50 35 12)) 35 8 ((dt50 35 8) + 1)) 35 8 = (dt50 35 8) + 1 := rfl
          have w127 : (u2 (u2 dt50 41 ((p1 + 2).toNat) (dt50 35 12)) 35 8 ((dt50 35 8) + 1)) 35 12 = dt50 35 12 := w72
          have lv130 := KLIVE hz (D := (u2 dt50 41 ((p1 + 2).toNat) (dt50 35 12))) (by omega) (by omega) (by (have z_ := unhid h49_2; omega))
          have X129 : PX S t (gLine K V) (fun i => gB (gB_ K V 8 i) (gK K 59)) dt (u2 (u2 dt50 41 ((p1 + 2).toNat) (dt50 35 12)) 35 8 ((dt50 35 8) + 1)) := PX_st X75 (SPX_inc hz (by omega) (by omega) (by omega) (by omega) (by omega)) (fun hl => by first | (show (gL2 K V) ((u2 dt50 41 ((p1 + 2).toNat) (dt50 35 12)) 35 8).toNat = (fun i => gB (gB_ K V 8 i) (gK K 59)) (((u2 dt50 41 ((p1 + 2).toNat) (dt50 35 12)) 35 8).toNat + 1); exact gL2_w (by omega)) | (exfalso; fail))
          have R131 : (u2 (u2 dt50 41 ((p1 + 2).toNat) (dt50 35 12)) 35 8 ((dt50 35 8) + 1)) 35 2 = 0 → (u2 (u2 dt50 41 ((p1 + 2).toNat) (dt50 35 12)) 35 8 ((dt50 35 8) + 1)) 41 p1.toNat = lnR K V (dt 35 8).toNat := fun z_ => (u2_ne (by omega)).trans (R78 z_)
          replace R131 := hid R131
          have R132 : (u2 (u2 dt50 41 ((p1 + 2).toNat) (dt50 35 12)) 35 8 ((dt50 35 8) + 1)) 41 (p1 + 1).toNat = dt 35 12 := (u2_ne (by omega)).trans R79
          have R133 : (u2 (u2 dt50 41 ((p1 + 2).toNat) (dt50 35 12)) 35 8 ((dt50 35 8) + 1)) 35 2 = 0 → (u2 (u2 dt50 41 ((p1 + 2).toNat) (dt50 35 12)) 35 8 ((dt50 35 8) + 1)) 41 (p1 + 2).toNat = dt 35 12 + ((eE K V (lnP K (dt 35 8).toNat)).length : Int) := fun z_ => (u2_ne (by omega)).trans (R81 z_)
          replace R133 := hid R133
          have R134 : ∀ j : Nat, (j : Int) < p1 ∨ p1 + 4 ≤ (j : Int) → (u2 (u2 dt50 41 ((p1 + 2).toNat) (dt50 35 12)) 35 8 ((dt50 35 8) + 1)) 41 j = dt 41 j := fun j hj => (u2_ne (by omega)).trans (R80 j hj)
          clear w67 w69 w70 w72
          refine go_smpq PM29 (L' := [some (.inr (.inr (some 35))), some (.inl p1), some (.inl 1)]) (st' := []) (w' := (SH, (u2 (u2 dt50 41 ((p1 + 2).toNat) (dt50 35 12)) 35 8 ((dt50 35 8) + 1)))) rfl rfl (s_pf rfl rfl rfl rfl ⟨by omega, by omega⟩) ?_
          refine go_toq PM29 (k := 2) (pc' := 113) (L' := [some (.inr (.inr (some 35))), some (.inl p1), some (.inl 1)]) (st' := [.inl 0, .inr (.inr (some 35))]) (w' := (SH, (u2 (u2 dt50 41 ((p1 + 2).toNat) (dt50 35 12)) 35 8 ((dt50 35 8) + 1)))) rfl ?_
          refine go_callq PM29 PM31 (Q' := _) rfl rfl rfl rfl (sp_X1_condition_0f L xs sio (d + 0) (u2 (u2 dt50 41 ((p1 + 2).toNat) (dt50 35 12)) 35 8 ((dt50 35 8) + 1)) hI120 K V S t hz ht  (by first | with_reducible assumption | exact unhid (by with_reducible assumption) | exact TKc_fr h_p0 hF121 (by decide) (by decide) (by decide) (by omega) | fail) (by first | with_reducible assumption | exact unhid (by with_reducible assumption) | exact TKc_fr h_p0 hF121 (by decide) (by decide) (by decide) (by omega) | omega) (by first | with_reducible assumption | exact unhid (by with_reducible assumption) | exact TKc_fr h_p0 hF121 (by decide) (by decide) (by decide) (by omega) | omega) (by first | with_reducible assumption | exact unhid (by with_reducible assumption) | exact TKc_fr h_p0 hF121 (by decide) (by decide) (by decide) (by omega) | (have z_ := unhid u32_; omega))) ?_
          rintro _ _ ⟨dt136, rfl, hI137, hF138, h135⟩
          refine ⟨rfl, ?_⟩
          have hF139 : Fr [35, 41, 42] dt dt136 := Fr_tr hF121 hF138 (by decide)
          rcases h135 with ⟨rfl, h135⟩
          obtain ⟨h135_0, h135_1, h135_2, h135_3, h135_4, h135_5, h135_6, h135_7⟩ := h135
          have w140 : dt136 35 1 = dt 35 1 := h135_6.trans w122
          have w141 : dt136 35 7 = dt 35 7 := h135_7.trans w125
          have X142 : PX S t (gLine K V) (gK K 59) dt dt136 := PX_st X129 h135_0 (fun hl => by first | exact rfl | (exfalso; fail))
          have Q143 : QX (eLn K V) eNl dt dt136 := QX_st Q73 (fun z_ => by have y_ := SPX_ok h135_0 (by first | with_reducible assumption | exact unhid (by with_reducible assumption) | omega) z_; first | exact y_.1 | fail) (by omega) (fun z_ => CDX_l (D' := (u2 (u2 dt50 41 ((p1 + 2).toNat) (dt50 35 12)) 35 8 ((dt50 35 8) + 1))) rfl (fun j => u2_ne (by omega)) ((fun z_ => h135_4 z_) z_)) (fun z_ => by have y_ := SPX_ok h135_0 (by first | with_reducible assumption | exact unhid (by with_reducible assumption) | omega) z_; (try rw [y_.2.2]); have hl := y_.2.1; rw [show ((u2 (u2 dt50 41 ((p1 + 2).toNat) (dt50 35 12)) 35 8 ((dt50 35 8) + 1)) 35 8).toNat = ((u2 dt50 41 ((p1 + 2).toNat) (dt50 35 12)) 35 8).toNat + 1 by first | with_reducible assumption | exact unhid (by with_reducible assumption) | omega] at hl ⊢; first | done | (exact (eLb_1 (by omega)).trans (List.append_nil _).symm))
          have ql144 := fun (z_ : dt136 35 2 = 0) => (SPX_ok h135_0 (by first | with_reducible assumption | exact unhid (by with_reducible assumption) | omega) z_).1
          replace ql144 := hid ql144
          have ql145 := hid (fun (z_ : dt136 35 2 = 0) => (Q143 z_).1)
          have R146 : dt136 35 2 = 0 → dt136 41 p1.toNat = lnR K V (dt 35 8).toNat := fun z_ => ((hF138 41 (by decide) _).trans (R131 (by omega)))
          replace R146 := hid R146
          have R147 : dt136 41 (p1 + 1).toNat = dt 35 12 := (hF138 41 (by decide) _).trans R132
          have R148 : dt136 35 2 = 0 → dt136 41 (p1 + 2).toNat = dt 35 12 + ((eE K V (lnP K (dt 35 8).toNat)).length : Int) := fun z_ => ((hF138 41 (by decide) _).trans (R133 (by omega)))
          replace R148 := hid R148
          have R149 : ∀ j : Nat, (j : Int) < p1 ∨ p1 + 4 ≤ (j : Int) → dt136 41 j = dt 41 j := fun j hj => (hF138 41 (by decide) j).trans (R134 j hj)
          clear h135_6 w122 h135_7 w125
          have r150 : 0 ≤ dt136 35 12 ∧ dt136 35 12 ≤ 500 := InvC_get hI137 35 12 rfl rfl
          refine go_toq PM29 (k := 7) (pc' := 127) (L' := [some (.inr (.inr (some 35))), some (.inl p1), some (.inl 1)]) (st' := [.inl (dt136 35 12), .inl (p1 + 3), .inr (.inr (some 41))]) (w' := (SH, dt136)) rfl ?_
          have hI151 : InvC (u2 dt136 41 ((p1 + 3).toNat) (dt136 35 12)) := InvC_u2 hI137 (lo := -2147483648) (hi := 2147483647) rfl rfl rfl (by first | exact bnd1 r150 (by decide) | fail) (by first | exact bnd2 r150 (by decide) | fail)
          have hF152 : Fr [35, 41, 42] dt (u2 dt136 41 ((p1 + 3).toNat) (dt136 35 12)) := Fr_u2 hF139 (by decide)
          have w153 : (u2 dt136 41 ((p1 + 3).toNat) (dt136 35 12)) 35 1 = dt 35 1 := w140
          have w154 : (u2 dt136 41 ((p1 + 3).toNat) (dt136 35 12)) 35 2 = dt136 35 2 := rfl
          have w155 : (u2 dt136 41 ((p1 + 3).toNat) (dt136 35 12)) 35 3 = dt136 35 3 := rfl
          have w156 : (u2 dt136 41 ((p1 + 3).toNat) (dt136 35 12)) 35 7 = dt 35 7 := w141
          have w157 : (u2 dt136 41 ((p1 + 3).toNat) (dt136 35 12)) 35 8 = dt136 35 8 := rfl
          have w158 : (u2 dt136 41 ((p1 + 3).toNat) (dt136 35 12)) 35 12 = dt136 35 12 := rfl
          have Q159 : QX (eLn K V) eNl dt (u2 dt136 41 ((p1 + 3).toNat) (dt136 35 12)) := QX_sm Q143 rfl rfl rfl (fun j => u2_ne (by omega))
          have ql160 := hid (fun (z_ : (u2 dt136 41 ((p1 + 3).toNat) (dt136 35 12)) 35 2 = 0) => (Q159 z_).1)
          have X161 : PX S t (gLine K V) (gK K 59) dt (u2 dt136 41 ((p1 + 3).toNat) (dt136 35 12)) := PX_sm X142 rfl rfl rfl
          have kk162 : K ((u2 dt136 41 ((p1 + 3).toNat) (dt136 35 12)) 35 8).toNat = K (dt136 35 8).toNat := rfl
          have kk163 : V ((u2 dt136 41 ((p1 + 3).toNat) (dt136 35 12)) 35 8).toNat = V (dt136 35 8).toNat := rfl
          have R164 : (u2 dt136 41 ((p1 + 3).toNat) (dt136 35 12)) 35 2 = 0 → (u2 dt136 41 ((p1 + 3).toNat) (dt136 35 12)) 41 p1.toNat = lnR K V (dt 35 8).toNat := fun z_ => (u2_ne (by omega)).trans (R146 z_)
          replace R164 := hid R164
          have R165 : (u2 dt136 41 ((p1 + 3).toNat) (dt136 35 12)) 41 (p1 + 1).toNat = dt 35 12 := (u2_ne (by omega)).trans R147
          have R166 : (u2 dt136 41 ((p1 + 3).toNat) (dt136 35 12)) 35 2 = 0 → (u2 dt136 41 ((p1 + 3).toNat) (dt136 35 12)) 41 (p1 + 2).toNat = dt 35 12 + ((eE K V (lnP K (dt 35 8).toNat)).length : Int) := fun z_ => (u2_ne (by omega)).trans (R148 z_)
          replace R166 := hid R166
          have R167 : ∀ j : Nat, (j : Int) < p1 ∨ p1 + 4 ≤ (j : Int) → (u2 dt136 41 ((p1 + 3).toNat) (dt136 35 12)) 41 j = dt 41 j := fun j hj => (u2_ne (by omega)).trans (R149 j hj)
          have R168 : (u2 dt136 41 ((p1 + 3).toNat) (dt136 35 12)) 41 (p1 + 3).toNat = dt136 35 12 := u2_eq
          refine go_smpq PM29 (L' := [some (.inr (.inr (some 35))), some (.inl p1), some (.inl 1)]) (st' := []) (w' := (SH, (u2 dt136 41 ((p1 + 3).toNat) (dt136 35 12)))) rfl rfl (s_iast (n := 64) rfl ⟨by omega, by omega⟩ (by first | exact bnd r150 (by decide) (by decide) | exact ⟨by fail, by fail⟩)) ?_
          refine go_toq PM29 (k := 2) (pc' := 131) (L' := [some (.inr (.inr (some 35))), some (.inl p1), some (.inl 1)]) (st' := [.inl 59, .inr (.inr (some 35))]) (w' := (SH, (u2 dt136 41 ((p1 + 3).toNat) (dt136 35 12)))) rfl ?_
          refine go_callq PM29 PM22 (Q' := _) rfl rfl rfl rfl (sp_X1_skip_f L xs sio (d + 19) (u2 dt136 41 ((p1 + 3).toNat) (dt136 35 12)) hI151 K V S t hz ht 59 ⟨by decide, by decide⟩ (by first | with_reducible assumption | exact unhid (by with_reducible assumption) | exact TKc_fr h_p0 hF152 (by decide) (by decide) (by decide) (by omega) | fail) (by first | with_reducible assumption | exact unhid (by with_reducible assumption) | exact TKc_fr h_p0 hF152 (by decide) (by decide) (by decide) (by omega) | omega) (by first | with_reducible assumption | exact unhid (by with_reducible assumption) | exact TKc_fr h_p0 hF152 (by decide) (by decide) (by decide) (by omega) | omega)) ?_
          rintro _ _ ⟨dt170, rfl, hI171, hF172, h169⟩
          refine ⟨rfl, ?_⟩
          have hF173 : Fr [35, 41, 42] dt dt170 := Fr_tr hF152 hF172 (by decide)
          rcases h169 with ⟨rfl, h169⟩
          obtain ⟨h169_0, h169_1, h169_2, h169_3, h169_4, h169_5, h169_6⟩ := h169
          replace h169_2 := hid h169_2
          have w174 : dt170 35 1 = dt 35 1 := h169_4.trans w153
          have w175 : dt170 35 7 = dt 35 7 := h169_5.trans w156
          have w176 : dt170 35 12 = dt136 35 12 := h169_6.trans w158
          have X177 : PX S t (gLine K V) gOk dt dt170 := PX_st X161 h169_0 (fun hl => by first | exact gB_id.symm | (exfalso; fail))
          have Q178 : QX (eLn K V) eNl dt dt170 := QX_st Q159 (fun z_ => by have y_ := SPX_ok h169_0 (by first | with_reducible assumption | exact unhid (by with_reducible assumption) | omega) z_; first | exact y_.1 | fail) (by omega) (fun _ => CDX_sm (by omega) (fun j => hF172 42 (by decide) j)) (fun z_ => by have y_ := SPX_ok h169_0 (by first | with_reducible assumption | exact unhid (by with_reducible assumption) | omega) z_; (try rw [y_.2.2]); have hl := y_.2.1; first | done | (rfl))
          have ql179 := fun (z_ : dt170 35 2 = 0) => (SPX_ok h169_0 (by first | with_reducible assumption | exact unhid (by with_reducible assumption) | omega) z_).1
          replace ql179 := hid ql179
          have ql180 := hid (fun (z_ : dt170 35 2 = 0) => (Q178 z_).1)
          have u47_ := hid (And.intro (unhid h_p2) (And.intro (unhid h_p4) (And.intro (unhid hv0) (And.intro (unhid h49_2) (And.intro (unhid h49_5) (And.intro (unhid ql58) (And.intro (unhid ql59) (And.intro (unhid ql74) (And.intro (unhid ql144) (And.intro (unhid ql145) (And.intro (unhid ql160) (And.intro (unhid h169_2) (And.intro (unhid ql179) (unhid ql180))))))))))))))
          have R181 : dt170 35 2 = 0 → dt170 41 p1.toNat = lnR K V (dt 35 8).toNat := fun z_ => ((hF172 41 (by decide) _).trans (R164 (by (have z_ := unhid ql179; omega))))
          replace R181 := hid R181
          have R182 : dt170 41 (p1 + 1).toNat = dt 35 12 := (hF172 41 (by decide) _).trans R165
          have R183 : dt170 35 2 = 0 → dt170 41 (p1 + 2).toNat = dt 35 12 + ((eE K V (lnP K (dt 35 8).toNat)).length : Int) := fun z_ => ((hF172 41 (by decide) _).trans (R166 (by (have z_ := unhid ql179; omega))))
          replace R183 := hid R183
          have R184 : dt170 41 (p1 + 3).toNat = dt136 35 12 := (hF172 41 (by decide) _).trans R168
          have R185 : ∀ j : Nat, (j : Int) < p1 ∨ p1 + 4 ≤ (j : Int) → dt170 41 j = dt 41 j := fun j hj => (hF172 41 (by decide) j).trans (R167 j hj)
          clear h169_4 w153 h169_5 w156 h169_6 w158
          refine go_retq PM29 (k := 0) (r := none) (w1 := (SH, dt170)) rfl ?_
          exact ⟨dt170, rfl, hI171, hF173, ⟨rfl, ⟨by exact PX_e X177 (by omega), by first | exact True.intro | with_reducible assumption | exact unhid (by with_reducible assumption) | rfl | fail | trivial, by first | exact True.intro | with_reducible assumption | exact unhid (by with_reducible assumption) | rfl | fail | trivial, by first | exact True.intro | with_reducible assumption | exact unhid (by with_reducible assumption) | rfl | omega | trivial, by first | exact True.intro | with_reducible assumption | exact unhid (by with_reducible assumption) | rfl | omega | trivial, by first | (intro z_; exfalso; fail) | (intro z_; exact ⟨R181 z_, R182, R183 z_, (R184).trans (by omega)⟩), by first | exact fun _ _ => rfl | exact R185, by first | (intro z_; exfalso; fail) | exact QX_e Q178, by first | exact True.intro | with_reducible assumption | exact unhid (by with_reducible assumption) | rfl | (have z_ := unhid u47_; omega) | trivial, by first | exact True.intro | with_reducible assumption | exact unhid (by with_reducible assumption) | rfl | fail | trivial, by first | exact True.intro | with_reducible assumption | exact unhid (by with_reducible assumption) | rfl | fail | trivial⟩⟩⟩
    · exfalso; omega
theorem sp_X1_readLine_f : ∀ (L : Nat) (xs : Nat → Int32) (sio : Option Nat) (d : Nat) (dt : Nat → Nat → Int) (hI : InvC dt) (K V S : Nat → Int) (t : Nat) (hz : KZ K t) (ht : t ≤ 500) (p1 : Int) (h_p1 : 0 ≤ p1 ∧ p1 ≤ 60) (h_p0 : TKc K V S t dt) (h_p1 : 0 ≤ dt 35 8 ∧ dt 35 8 ≤ (t : Int)) (h_p2 : ¬ dt 35 2 = 0 → dt 35 8 = (t : Int)) (h_p3 : K (dt 35 8).toNat = 1000 ∨ K (dt 35 8).toNat = 1001) (h_p4 : dt 35 2 = 0 → dt 35 12 ≤ dt 35 8), GO (am_XX L xs sio) (d + 21) 29 0 [some (.inr (.inr (some 35))), some (.inl p1), none] [] (SH, dt) (fun r w2 => ∃ dt2 : Nat → Nat → Int, w2 = (SH, dt2) ∧ InvC dt2 ∧ Fr [35, 41, 42] dt dt2 ∧ ((r = none ∧ (SPX S t dt dt2 (gLine K V)) ∧ (0 ≤ dt2 35 8 ∧ dt2 35 8 ≤ (t : Int)) ∧ (¬ dt2 35 2 = 0 → dt2 35 8 = (t : Int)) ∧ (dt 35 8 ≤ dt2 35 8) ∧ (dt 35 8 + 1 ≤ dt2 35 8) ∧ (dt2 35 2 = 0 → dt2 41 p1.toNat = lnR K V (dt 35 8).toNat ∧ dt2 41 (p1 + 1).toNat = dt 35 12 ∧ dt2 41 (p1 + 2).toNat = dt 35 12 + ((eE K V (lnP K (dt 35 8).toNat)).length : Int) ∧ dt2 41 (p1 + 3).toNat = dt2 35 12) ∧ (∀ j : Nat, (j : Int) < p1 ∨ p1 + 4 ≤ (j : Int) → dt2 41 j = dt 41 j) ∧ (dt2 35 2 = 0 → CDX dt dt2 ((eLn K V) (dt 35 8).toNat)) ∧ (dt2 35 2 = 0 → dt2 35 12 + dt 35 8 ≤ dt2 35 8 + dt 35 12) ∧ (dt2 35 1 = dt 35 1) ∧ (dt2 35 7 = dt 35 7)))) := by exact fun z0 z1 z2 z3 z4 z5 z6 z7 z8 z9 z10 z11 z12 z13 z14 z15 z16 z17 z18 => Or.elim z17 (fun w_ => sp_X1_readLine_f0 z0 z1 z2 z3 z4 z5 z6 z7 z8 z9 z10 z11 z12 z13 z14 z15 z16 w_ z18) (fun w_ => sp_X1_readLine_f1 z0 z1 z2 z3 z4 z5 z6 z7 z8 z9 z10 z11 z12 z13 z14 z15 z16 w_ z18)
