theorem sp_X5_play_wF (L : Nat) (xs : Nat → Int32) (sio : Option Nat) (d : Nat) (dt : Nat → Nat → Int) (hI : InvC dt) (F : Nat → Int) (hMF : MW F) (p1 : Int) (h_p1 : 0 ≤ p1 ∧ p1 ≤ 7) (h_p0 : SCL (dt 2) (dt 3) F) : GO (am_XX L xs sio) (d + 4) 113 0 [some (.inr (.inr (some 0))), some (.inl p1), none] [] (SH, dt) (fun r w2 => ∃ dt2 : Nat → Nat → Int, w2 = (SH, dt2) ∧ InvC dt2 ∧ Fr [44, 45, 46, 47, 48, 49, 50, 51, 52, 53, 54, 55, 56] dt dt2 ∧ ((r = none ∧ (VC 44 dt2 = wend F p1)))) := by
  have hF : Fr [44, 45, 46, 47, 48, 49, 50, 51, 52, 53, 54, 55, 56] dt dt := Fr_refl
  have hs_ := h_p0 p1.toNat (by omega)
  have hn_ := MW_am hMF p1 ⟨by omega, by omega⟩
  have ei_ : 6 + p1.toNat = (6 + p1).toNat := by omega
  rw [ei_] at hs_
  refine go_toq PM113 (k := 2) (pc' := 4) (L' := [some (.inr (.inr (some 0))), some (.inl p1), none]) (st' := [.inr (.inr (some 43))]) (w' := (SH, dt)) rfl ?_
  refine go_callq PM113 PM51 (Q' := _) rfl rfl rfl rfl (sp_X4_begin_w L xs sio (d + 2) dt hI   ) ?_
  rintro _ _ ⟨dt2, rfl, hI3, hF4, h1⟩
  refine ⟨rfl, ?_⟩
  have hF5 : Fr [44, 45, 46, 47, 48, 49, 50, 51, 52, 53, 54, 55, 56] dt dt2 := Fr_tr hF hF4 (by decide)
  rcases h1 with ⟨rfl, h1⟩
  refine go_toq PM113 (k := 1) (pc' := 8) (L' := [some (.inr (.inr (some 0))), some (.inl p1), none]) (st' := [.inl p1]) (w' := (SH, dt2)) rfl ?_
  refine go_callq PM113 PM102 (Q' := _) rfl rfl rfl rfl (sp_X5_isScene L xs sio (d + 2) dt2 hI3  p1 (by first | exact h_p1 | exact bnd h_p1 (by decide) (by decide) | exact ⟨by fail, by fail⟩) ) ?_
  rintro _ _ ⟨rfl, h6⟩
  refine ⟨rfl, ?_⟩
  rcases h6 with ⟨rfl, h6⟩ | ⟨rfl, h6⟩
  · skip
    refine go_toq PM113 (k := 3) (pc' := 17) (L' := [some (.inr (.inr (some 0))), some (.inl p1), some (.inl 0)]) (st' := []) (w' := (SH, dt2)) rfl ?_
    have loop24 : ∀ (k_ : Nat) (l17_2 : Int) (dt18 : Nat → Nat → Int) (hI19 : InvC dt18) (hF20 : Fr [44, 45, 46, 47, 48, 49, 50, 51, 52, 53, 54, 55, 56] dt dt18) (i21 : 0 ≤ l17_2 ∧ l17_2 ≤ 24) (i22 : VC 44 dt18 = wpl F (14 + 120 * p1.toNat) l17_2.toNat) (i23 : l17_2 ≤ F (6 + p1).toNat), (25 - l17_2).toNat < k_ → GO (am_XX L xs sio) (d + 4) 113 17 [some (.inr (.inr (some 0))), some (.inl p1), some (.inl l17_2)] [] (SH, dt18) (fun r w2 => ∃ dt2 : Nat → Nat → Int, w2 = (SH, dt2) ∧ InvC dt2 ∧ Fr [44, 45, 46, 47, 48, 49, 50, 51, 52, 53, 54, 55, 56] dt dt2 ∧ ((r = none ∧ (VC 44 dt2 = wend F p1)))) := by
      intro k_
      induction k_ with
      | zero => intro l17_2 dt18 hI19 hF20 i21 i22 i23 hm; exact absurd hm (Nat.not_lt_zero _)
      | succ k_ ih_loop24 =>
        intro l17_2 dt18 hI19 hF20 i21 i22 i23 hm
        have qW := i22
        refine go_toq PM113 (k := 5) (pc' := 26) (L' := [some (.inr (.inr (some 0))), some (.inl p1), some (.inl l17_2)]) (st' := [.inl p1, .inr (.inr (some 3)), .inl l17_2]) (w' := (SH, dt18)) rfl ?_
        have r25 : (-2147483648) ≤ dt 3 (p1).toNat ∧ dt 3 (p1).toNat ≤ 2147483647 := InvC_get hI 3 (p1).toNat rfl rfl
        refine go_smpq PM113 (L' := [some (.inr (.inr (some 0))), some (.inl p1), some (.inl l17_2)]) (st' := [.inl (dt 3 (p1).toNat), .inl l17_2]) (w' := (SH, dt18)) rfl rfl (s_ev (s_iald (n := 8) (f := dt18 3) rfl (by first | exact bndx h_p1 (by decide) (by decide) | exact ⟨by fail, by fail⟩)) (hF20 3 (by decide) _)) ?_
        refine go_ifq PM113 (k := 0) (p1 := 63) (p2 := 30) (L' := [some (.inr (.inr (some 0))), some (.inl p1), some (.inl l17_2)]) (st' := []) (w' := (SH, dt18)) rfl (c_ge (a := l17_2) (b := dt 3 (p1).toNat) (by first | exact bnd i21 (by decide) (by decide) | exact ⟨by fail, by fail⟩) (by first | exact bnd r25 (by decide) (by decide) | exact ⟨by fail, by fail⟩)) (fun c26 => ?_) (fun c26 => ?_)
        · skip
          refine go_retq PM113 (k := 0) (r := none) (w1 := (SH, dt18)) rfl ?_
          exact ⟨dt18, rfl, hI19, hF20, ⟨rfl, by first | (exfalso; fail) | exact wend_e qW (by omega)⟩⟩
        · skip
          refine go_ifq PM113 (k := 2) (p1 := 63) (p2 := 36) (L' := [some (.inr (.inr (some 0))), some (.inl p1), some (.inl l17_2)]) (st' := []) (w' := (SH, dt18)) rfl (c_ge (a := l17_2) (b := 24) (by first | exact bnd i21 (by decide) (by decide) | exact bndd i21 c26 (by decide) (by decide) | exact ⟨by fail, by fail⟩) ⟨by decide, by decide⟩) (fun c27 => ?_) (fun c27 => ?_)
          · skip
            refine go_retq PM113 (k := 0) (r := none) (w1 := (SH, dt18)) rfl ?_
            exact ⟨dt18, rfl, hI19, hF20, ⟨rfl, by first | (exfalso; omega) | exact wend_e qW (by fail)⟩⟩
          · skip
            refine go_toq PM113 (k := 10) (pc' := 53) (L' := [some (.inr (.inr (some 0))), some (.inl p1), some (.inl l17_2)]) (st' := [.inl ((p1 * 24) + l17_2), .inr (.inr (some 2)), .inr (.inr (some 43))]) (w' := (SH, dt18)) rfl ?_
            have r28 : (-2147483648) ≤ dt 2 (((p1 * 24) + l17_2).toNat) ∧ dt 2 (((p1 * 24) + l17_2).toNat) ≤ 2147483647 := InvC_get hI 2 (((p1 * 24) + l17_2).toNat) rfl rfl
            refine go_smpq PM113 (L' := [some (.inr (.inr (some 0))), some (.inl p1), some (.inl l17_2)]) (st' := [.inl (dt 2 (((p1 * 24) + l17_2).toNat)), .inr (.inr (some 43))]) (w' := (SH, dt18)) rfl rfl (s_ev (s_iald (n := 192) (f := dt18 2) rfl ⟨by omega, by omega⟩) (hF20 2 (by decide) _)) ?_
            refine go_callq PM113 PM53 (Q' := _) rfl rfl rfl rfl (sp_X4_act_w44 L xs sio (d + 0) dt18 hI19 (F (14 + 120 * p1.toNat + 5 * l17_2.toNat)) (F (14 + 120 * p1.toNat + 5 * l17_2.toNat + 1)) (F (14 + 120 * p1.toNat + 5 * l17_2.toNat + 2)) (F (14 + 120 * p1.toNat + 5 * l17_2.toNat + 3)) (F (14 + 120 * p1.toNat + 5 * l17_2.toNat + 4)) (dt 2 (((p1 * 24) + l17_2).toNat)) (by first | exact bnd r28 (by decide) (by decide) | exact ⟨by fail, by fail⟩) (by first | exact True.intro | with_reducible assumption | rfl | fail | trivial | (rw [qW]; exact WOK_m (WOK_pl hMF (by omega) _ (by omega)) (by omega)) | (rw [show ((p1 * 24) + l17_2).toNat = 24 * p1.toNat + l17_2.toNat by first | with_reducible assumption | fail]; exact hs_.2 _ (by fail))) (by first | exact True.intro | with_reducible assumption | rfl | fail | trivial | (rw [qW]; exact WOK_m (WOK_pl hMF (by fail) _ (by fail)) (by fail)) | (rw [show ((p1 * 24) + l17_2).toNat = 24 * p1.toNat + l17_2.toNat by first | with_reducible assumption | omega]; exact hs_.2 _ (by omega)))) ?_
            rintro _ _ ⟨dt30, rfl, hI31, hF32, h29⟩
            refine ⟨rfl, ?_⟩
            have hF33 : Fr [44, 45, 46, 47, 48, 49, 50, 51, 52, 53, 54, 55, 56] dt dt30 := Fr_tr hF20 hF32 (by decide)
            rcases h29 with ⟨rfl, h29⟩
            have WE34 := h29
            refine go_toq PM113 (k := 2) (pc' := 17) (L' := [some (.inr (.inr (some 0))), some (.inl p1), some (.inl (l17_2 + 1))]) (st' := []) (w' := (SH, dt30)) rfl ?_
            exact GO.le (ih_loop24 (l17_2 + 1) dt30 hI31 hF33 (by first | with_reducible assumption | omega | exact WE34 | exact wpl_s qW (by fail) WE34 rfl rfl rfl rfl rfl) (by first | with_reducible assumption | fail | exact WE34 | exact wpl_s qW (by omega) WE34 rfl rfl rfl rfl rfl) (by first | with_reducible assumption | omega | exact WE34 | exact wpl_s qW (by fail) WE34 rfl rfl rfl rfl rfl) (by omega)) ⟨.inl rfl, .inl rfl, .inl rfl, trivial⟩
    exact GO.le (loop24 _ 0 dt2 hI3 hF5 (by first | with_reducible assumption | omega | exact h1 | exact wpl_s qW (by fail) h1 rfl rfl rfl rfl rfl) (by first | with_reducible assumption | fail | exact h1 | exact wpl_s qW (by fail) h1 rfl rfl rfl rfl rfl) (by first | with_reducible assumption | omega | exact h1 | exact wpl_s qW (by fail) h1 rfl rfl rfl rfl rfl) (Nat.lt_succ_self _)) ⟨.inl rfl, .inl rfl, .inl rfl, trivial⟩
  · skip
    refine go_retq PM113 (k := 1) (r := none) (w1 := (SH, dt2)) rfl ?_
    exact ⟨dt2, rfl, hI3, hF5, ⟨rfl, by first | (exfalso; omega) | exact wend_e qW (by fail)⟩⟩
theorem sp_X2_at_7_0 (L : Nat) (xs : Nat → Int32) (sio : Option Nat) (d : Nat) (dt : Nat → Nat → Int) (hI : InvC dt)  (p1 : Int) (h_p1 : 0 ≤ p1 ∧ p1 ≤ 11) (h_p0 : p1 < dt 7 3) (h_p1 : QOC (dt 8) (dt 7 3)) : GO (am_XX L xs sio) (d + 1) 39 0 [some (.inr (.inr (some 7))), some (.inl p1), some (.inl 0)] [] (SH, dt) (fun r w2 => w2 = (SH, dt) ∧ ((r = some (.inl (dt 8 (((p1 * 5) + 0)).toNat)) ∧ (0 ≤ dt 8 (((p1 * 5) + 0)).toNat ∧ dt 8 (((p1 * 5) + 0)).toNat ≤ 7)))) := by
  have r1 : 0 ≤ dt 7 3 ∧ dt 7 3 ≤ 12 := InvC_get hI 7 3 rfl rfl
  have hQ_ := QOC_at h_p1 (q := p1) (by omega) (by omega)
  unfold qOC at hQ_
  refine go_toq PM39 (k := 2) (pc' := 2) (L' := [some (.inr (.inr (some 7))), some (.inl p1), some (.inl 0)]) (st' := [.inl p1, .inr (.inr (some 7))]) (w' := (SH, dt)) rfl ?_
  refine go_callq PM39 PM37 (Q' := _) rfl rfl rfl rfl (sp_X2_has_7 L xs sio (d + 0) dt hI  p1 (by first | exact h_p1 | exact bnd h_p1 (by decide) (by decide) | exact ⟨by omega, by omega⟩) ) ?_
  rintro _ _ ⟨rfl, h2⟩
  refine ⟨rfl, ?_⟩
  rcases h2 with ⟨rfl, h2⟩ | ⟨rfl, h2⟩
  · skip
    refine go_toq PM39 (k := 5) (pc' := 14) (L' := [some (.inr (.inr (some 7))), some (.inl p1), some (.inl 0)]) (st' := [.inr (.inr (some 7)), .inl 0]) (w' := (SH, dt)) rfl ?_
    refine go_smpq PM39 (L' := [some (.inr (.inr (some 7))), some (.inl p1), some (.inl 0)]) (st' := [.inl 5, .inl 0]) (w' := (SH, dt)) rfl rfl (s_gfc rfl rfl rfl (hI.2 7 1 rfl)) ?_
    refine go_toq PM39 (k := 5) (pc' := 26) (L' := [some (.inr (.inr (some 7))), some (.inl p1), some (.inl 0)]) (st' := [.inr (.inr (some 7)), .inl p1, .inr (.inr (some 8))]) (w' := (SH, dt)) rfl ?_
    refine go_smpq PM39 (L' := [some (.inr (.inr (some 7))), some (.inl p1), some (.inl 0)]) (st' := [.inl 5, .inl p1, .inr (.inr (some 8))]) (w' := (SH, dt)) rfl rfl (s_gfc rfl rfl rfl (hI.2 7 1 rfl)) ?_
    refine go_toq PM39 (k := 3) (pc' := 32) (L' := [some (.inr (.inr (some 7))), some (.inl p1), some (.inl 0)]) (st' := [.inl ((p1 * 5) + 0), .inr (.inr (some 8))]) (w' := (SH, dt)) rfl ?_
    have r3 : (-2147483648) ≤ dt 8 (((p1 * 5) + 0).toNat) ∧ dt 8 (((p1 * 5) + 0).toNat) ≤ 2147483647 := InvC_get hI 8 (((p1 * 5) + 0).toNat) rfl rfl
    refine go_smpq PM39 (L' := [some (.inr (.inr (some 7))), some (.inl p1), some (.inl 0)]) (st' := [.inl (dt 8 (((p1 * 5) + 0).toNat))]) (w' := (SH, dt)) rfl rfl (s_iald (n := 60) (f := dt 8) rfl ⟨by omega, by omega⟩) ?_
    refine go_retq PM39 (k := 1) (r := some (.inl (dt 8 (((p1 * 5) + 0).toNat)))) (w1 := (SH, dt)) rfl ?_
    exact ⟨rfl, ⟨rfl, by first | exact True.intro | with_reducible assumption | rfl | omega | trivial⟩⟩
  · skip
    exfalso; omega
theorem sp_X2_at_7_1 (L : Nat) (xs : Nat → Int32) (sio : Option Nat) (d : Nat) (dt : Nat → Nat → Int) (hI : InvC dt)  (p1 : Int) (h_p1 : 0 ≤ p1 ∧ p1 ≤ 11) (h_p0 : p1 < dt 7 3) (h_p1 : QOC (dt 8) (dt 7 3)) : GO (am_XX L xs sio) (d + 1) 39 0 [some (.inr (.inr (some 7))), some (.inl p1), some (.inl 1)] [] (SH, dt) (fun r w2 => w2 = (SH, dt) ∧ ((r = some (.inl (dt 8 (((p1 * 5) + 1)).toNat)) ∧ (0 ≤ dt 8 (((p1 * 5) + 1)).toNat ∧ dt 8 (((p1 * 5) + 1)).toNat ≤ 1)))) := by
  have r1 : 0 ≤ dt 7 3 ∧ dt 7 3 ≤ 12 := InvC_get hI 7 3 rfl rfl
  have hQ_ := QOC_at h_p1 (q := p1) (by omega) (by omega)
  unfold qOC at hQ_
  refine go_toq PM39 (k := 2) (pc' := 2) (L' := [some (.inr (.inr (some 7))), some (.inl p1), some (.inl 1)]) (st' := [.inl p1, .inr (.inr (some 7))]) (w' := (SH, dt)) rfl ?_
  refine go_callq PM39 PM37 (Q' := _) rfl rfl rfl rfl (sp_X2_has_7 L xs sio (d + 0) dt hI  p1 (by first | exact h_p1 | exact bnd h_p1 (by decide) (by decide) | exact ⟨by omega, by omega⟩) ) ?_
  rintro _ _ ⟨rfl, h2⟩
  refine ⟨rfl, ?_⟩
  rcases h2 with ⟨rfl, h2⟩ | ⟨rfl, h2⟩
  · skip
    refine go_toq PM39 (k := 5) (pc' := 14) (L' := [some (.inr (.inr (some 7))), some (.inl p1), some (.inl 1)]) (st' := [.inr (.inr (some 7)), .inl 1]) (w' := (SH, dt)) rfl ?_
    refine go_smpq PM39 (L' := [some (.inr (.inr (some 7))), some (.inl p1), some (.inl 1)]) (st' := [.inl 5, .inl 1]) (w' := (SH, dt)) rfl rfl (s_gfc rfl rfl rfl (hI.2 7 1 rfl)) ?_
    refine go_toq PM39 (k := 5) (pc' := 26) (L' := [some (.inr (.inr (some 7))), some (.inl p1), some (.inl 1)]) (st' := [.inr (.inr (some 7)), .inl p1, .inr (.inr (some 8))]) (w' := (SH, dt)) rfl ?_
    refine go_smpq PM39 (L' := [some (.inr (.inr (some 7))), some (.inl p1), some (.inl 1)]) (st' := [.inl 5, .inl p1, .inr (.inr (some 8))]) (w' := (SH, dt)) rfl rfl (s_gfc rfl rfl rfl (hI.2 7 1 rfl)) ?_
    refine go_toq PM39 (k := 3) (pc' := 32) (L' := [some (.inr (.inr (some 7))), some (.inl p1), some (.inl 1)]) (st' := [.inl ((p1 * 5) + 1), .inr (.inr (some 8))]) (w' := (SH, dt)) rfl ?_
    have r3 : (-2147483648) ≤ dt 8 (((p1 * 5) + 1).toNat) ∧ dt 8 (((p1 * 5) + 1).toNat) ≤ 2147483647 := InvC_get hI 8 (((p1 * 5) + 1).toNat) rfl rfl
    refine go_smpq PM39 (L' := [some (.inr (.inr (some 7))), some (.inl p1), some (.inl 1)]) (st' := [.inl (dt 8 (((p1 * 5) + 1).toNat))]) (w' := (SH, dt)) rfl rfl (s_iald (n := 60) (f := dt 8) rfl ⟨by omega, by omega⟩) ?_
    refine go_retq PM39 (k := 1) (r := some (.inl (dt 8 (((p1 * 5) + 1).toNat)))) (w1 := (SH, dt)) rfl ?_
    exact ⟨rfl, ⟨rfl, by first | exact True.intro | with_reducible assumption | rfl | omega | trivial⟩⟩
  · skip
    exfalso; omega
theorem sp_X2_at_7_2 (L : Nat) (xs : Nat → Int32) (sio : Option Nat) (d : Nat) (dt : Nat → Nat → Int) (hI : InvC dt)  (p1 : Int) (h_p1 : 0 ≤ p1 ∧ p1 ≤ 11) (h_p0 : p1 < dt 7 3) (h_p1 : QOC (dt 8) (dt 7 3)) : GO (am_XX L xs sio) (d + 1) 39 0 [some (.inr (.inr (some 7))), some (.inl p1), some (.inl 2)] [] (SH, dt) (fun r w2 => w2 = (SH, dt) ∧ ((r = some (.inl (dt 8 (((p1 * 5) + 2)).toNat)) ∧ (0 ≤ dt 8 (((p1 * 5) + 2)).toNat ∧ dt 8 (((p1 * 5) + 2)).toNat ≤ 3)))) := by
  have r1 : 0 ≤ dt 7 3 ∧ dt 7 3 ≤ 12 := InvC_get hI 7 3 rfl rfl
  have hQ_ := QOC_at h_p1 (q := p1) (by omega) (by omega)
  unfold qOC at hQ_
  refine go_toq PM39 (k := 2) (pc' := 2) (L' := [some (.inr (.inr (some 7))), some (.inl p1), some (.inl 2)]) (st' := [.inl p1, .inr (.inr (some 7))]) (w' := (SH, dt)) rfl ?_
  refine go_callq PM39 PM37 (Q' := _) rfl rfl rfl rfl (sp_X2_has_7 L xs sio (d + 0) dt hI  p1 (by first | exact h_p1 | exact bnd h_p1 (by decide) (by decide) | exact ⟨by omega, by omega⟩) ) ?_
  rintro _ _ ⟨rfl, h2⟩
  refine ⟨rfl, ?_⟩
  rcases h2 with ⟨rfl, h2⟩ | ⟨rfl, h2⟩
  · skip
    refine go_toq PM39 (k := 5) (pc' := 14) (L' := [some (.inr (.inr (some 7))), some (.inl p1), some (.inl 2)]) (st' := [.inr (.inr (some 7)), .inl 2]) (w' := (SH, dt)) rfl ?_
    refine go_smpq PM39 (L' := [some (.inr (.inr (some 7))), some (.inl p1), some (.inl 2)]) (st' := [.inl 5, .inl 2]) (w' := (SH, dt)) rfl rfl (s_gfc rfl rfl rfl (hI.2 7 1 rfl)) ?_
    refine go_toq PM39 (k := 5) (pc' := 26) (L' := [some (.inr (.inr (some 7))), some (.inl p1), some (.inl 2)]) (st' := [.inr (.inr (some 7)), .inl p1, .inr (.inr (some 8))]) (w' := (SH, dt)) rfl ?_
    refine go_smpq PM39 (L' := [some (.inr (.inr (some 7))), some (.inl p1), some (.inl 2)]) (st' := [.inl 5, .inl p1, .inr (.inr (some 8))]) (w' := (SH, dt)) rfl rfl (s_gfc rfl rfl rfl (hI.2 7 1 rfl)) ?_
    refine go_toq PM39 (k := 3) (pc' := 32) (L' := [some (.inr (.inr (some 7))), some (.inl p1), some (.inl 2)]) (st' := [.inl ((p1 * 5) + 2), .inr (.inr (some 8))]) (w' := (SH, dt)) rfl ?_
    have r3 : (-2147483648) ≤ dt 8 (((p1 * 5) + 2).toNat) ∧ dt 8 (((p1 * 5) + 2).toNat) ≤ 2147483647 := InvC_get hI 8 (((p1 * 5) + 2).toNat) rfl rfl
    refine go_smpq PM39 (L' := [some (.inr (.inr (some 7))), some (.inl p1), some (.inl 2)]) (st' := [.inl (dt 8 (((p1 * 5) + 2).toNat))]) (w' := (SH, dt)) rfl rfl (s_iald (n := 60) (f := dt 8) rfl ⟨by omega, by omega⟩) ?_
    refine go_retq PM39 (k := 1) (r := some (.inl (dt 8 (((p1 * 5) + 2).toNat)))) (w1 := (SH, dt)) rfl ?_
    exact ⟨rfl, ⟨rfl, by first | exact True.intro | with_reducible assumption | rfl | omega | trivial⟩⟩
  · skip
    exfalso; omega
theorem sp_X2_at_7_3 (L : Nat) (xs : Nat → Int32) (sio : Option Nat) (d : Nat) (dt : Nat → Nat → Int) (hI : InvC dt)  (p1 : Int) (h_p1 : 0 ≤ p1 ∧ p1 ≤ 11) (h_p0 : p1 < dt 7 3) (h_p1 : QOC (dt 8) (dt 7 3)) : GO (am_XX L xs sio) (d + 1) 39 0 [some (.inr (.inr (some 7))), some (.inl p1), some (.inl 3)] [] (SH, dt) (fun r w2 => w2 = (SH, dt) ∧ ((r = some (.inl (dt 8 (((p1 * 5) + 3)).toNat)) ∧ (0 ≤ dt 8 (((p1 * 5) + 3)).toNat ∧ dt 8 (((p1 * 5) + 3)).toNat ≤ 2)))) := by
  have r1 : 0 ≤ dt 7 3 ∧ dt 7 3 ≤ 12 := InvC_get hI 7 3 rfl rfl
  have hQ_ := QOC_at h_p1 (q := p1) (by omega) (by omega)
  unfold qOC at hQ_
  refine go_toq PM39 (k := 2) (pc' := 2) (L' := [some (.inr (.inr (some 7))), some (.inl p1), some (.inl 3)]) (st' := [.inl p1, .inr (.inr (some 7))]) (w' := (SH, dt)) rfl ?_
  refine go_callq PM39 PM37 (Q' := _) rfl rfl rfl rfl (sp_X2_has_7 L xs sio (d + 0) dt hI  p1 (by first | exact h_p1 | exact bnd h_p1 (by decide) (by decide) | exact ⟨by omega, by omega⟩) ) ?_
  rintro _ _ ⟨rfl, h2⟩
  refine ⟨rfl, ?_⟩
  rcases h2 with ⟨rfl, h2⟩ | ⟨rfl, h2⟩
  · skip
    refine go_toq PM39 (k := 5) (pc' := 14) (L' := [some (.inr (.inr (some 7))), some (.inl p1), some (.inl 3)]) (st' := [.inr (.inr (some 7)), .inl 3]) (w' := (SH, dt)) rfl ?_
    refine go_smpq PM39 (L' := [some (.inr (.inr (some 7))), some (.inl p1), some (.inl 3)]) (st' := [.inl 5, .inl 3]) (w' := (SH, dt)) rfl rfl (s_gfc rfl rfl rfl (hI.2 7 1 rfl)) ?_
    refine go_toq PM39 (k := 5) (pc' := 26) (L' := [some (.inr (.inr (some 7))), some (.inl p1), some (.inl 3)]) (st' := [.inr (.inr (some 7)), .inl p1, .inr (.inr (some 8))]) (w' := (SH, dt)) rfl ?_
    refine go_smpq PM39 (L' := [some (.inr (.inr (some 7))), some (.inl p1), some (.inl 3)]) (st' := [.inl 5, .inl p1, .inr (.inr (some 8))]) (w' := (SH, dt)) rfl rfl (s_gfc rfl rfl rfl (hI.2 7 1 rfl)) ?_
    refine go_toq PM39 (k := 3) (pc' := 32) (L' := [some (.inr (.inr (some 7))), some (.inl p1), some (.inl 3)]) (st' := [.inl ((p1 * 5) + 3), .inr (.inr (some 8))]) (w' := (SH, dt)) rfl ?_
    have r3 : (-2147483648) ≤ dt 8 (((p1 * 5) + 3).toNat) ∧ dt 8 (((p1 * 5) + 3).toNat) ≤ 2147483647 := InvC_get hI 8 (((p1 * 5) + 3).toNat) rfl rfl
    refine go_smpq PM39 (L' := [some (.inr (.inr (some 7))), some (.inl p1), some (.inl 3)]) (st' := [.inl (dt 8 (((p1 * 5) + 3).toNat))]) (w' := (SH, dt)) rfl rfl (s_iald (n := 60) (f := dt 8) rfl ⟨by omega, by omega⟩) ?_
    refine go_retq PM39 (k := 1) (r := some (.inl (dt 8 (((p1 * 5) + 3).toNat)))) (w1 := (SH, dt)) rfl ?_
    exact ⟨rfl, ⟨rfl, by first | exact True.intro | with_reducible assumption | rfl | omega | trivial⟩⟩
  · skip
    exfalso; omega
theorem sp_X2_at_7_4 (L : Nat) (xs : Nat → Int32) (sio : Option Nat) (d : Nat) (dt : Nat → Nat → Int) (hI : InvC dt)  (p1 : Int) (h_p1 : 0 ≤ p1 ∧ p1 ≤ 11) (h_p0 : p1 < dt 7 3) (h_p1 : QOC (dt 8) (dt 7 3)) : GO (am_XX L xs sio) (d + 1) 39 0 [some (.inr (.inr (some 7))), some (.inl p1), some (.inl 4)] [] (SH, dt) (fun r w2 => w2 = (SH, dt) ∧ ((r = some (.inl (dt 8 (((p1 * 5) + 4)).toNat)) ∧ ((-1) ≤ dt 8 (((p1 * 5) + 4)).toNat ∧ dt 8 (((p1 * 5) + 4)).toNat ≤ 3)))) := by
  have r1 : 0 ≤ dt 7 3 ∧ dt 7 3 ≤ 12 := InvC_get hI 7 3 rfl rfl
  have hQ_ := QOC_at h_p1 (q := p1) (by omega) (by omega)
  unfold qOC at hQ_
  refine go_toq PM39 (k := 2) (pc' := 2) (L' := [some (.inr (.inr (some 7))), some (.inl p1), some (.inl 4)]) (st' := [.inl p1, .inr (.inr (some 7))]) (w' := (SH, dt)) rfl ?_
  refine go_callq PM39 PM37 (Q' := _) rfl rfl rfl rfl (sp_X2_has_7 L xs sio (d + 0) dt hI  p1 (by first | exact h_p1 | exact bnd h_p1 (by decide) (by decide) | exact ⟨by omega, by omega⟩) ) ?_
  rintro _ _ ⟨rfl, h2⟩
  refine ⟨rfl, ?_⟩
  rcases h2 with ⟨rfl, h2⟩ | ⟨rfl, h2⟩
  · skip
    refine go_toq PM39 (k := 5) (pc' := 14) (L' := [some (.inr (.inr (some 7))), some (.inl p1), some (.inl 4)]) (st' := [.inr (.inr (some 7)), .inl 4]) (w' := (SH, dt)) rfl ?_
    refine go_smpq PM39 (L' := [some (.inr (.inr (some 7))), some (.inl p1), some (.inl 4)]) (st' := [.inl 5, .inl 4]) (w' := (SH, dt)) rfl rfl (s_gfc rfl rfl rfl (hI.2 7 1 rfl)) ?_
    refine go_toq PM39 (k := 5) (pc' := 26) (L' := [some (.inr (.inr (some 7))), some (.inl p1), some (.inl 4)]) (st' := [.inr (.inr (some 7)), .inl p1, .inr (.inr (some 8))]) (w' := (SH, dt)) rfl ?_
    refine go_smpq PM39 (L' := [some (.inr (.inr (some 7))), some (.inl p1), some (.inl 4)]) (st' := [.inl 5, .inl p1, .inr (.inr (some 8))]) (w' := (SH, dt)) rfl rfl (s_gfc rfl rfl rfl (hI.2 7 1 rfl)) ?_
    refine go_toq PM39 (k := 3) (pc' := 32) (L' := [some (.inr (.inr (some 7))), some (.inl p1), some (.inl 4)]) (st' := [.inl ((p1 * 5) + 4), .inr (.inr (some 8))]) (w' := (SH, dt)) rfl ?_
    have r3 : (-2147483648) ≤ dt 8 (((p1 * 5) + 4).toNat) ∧ dt 8 (((p1 * 5) + 4).toNat) ≤ 2147483647 := InvC_get hI 8 (((p1 * 5) + 4).toNat) rfl rfl
    refine go_smpq PM39 (L' := [some (.inr (.inr (some 7))), some (.inl p1), some (.inl 4)]) (st' := [.inl (dt 8 (((p1 * 5) + 4).toNat))]) (w' := (SH, dt)) rfl rfl (s_iald (n := 60) (f := dt 8) rfl ⟨by omega, by omega⟩) ?_
    refine go_retq PM39 (k := 1) (r := some (.inl (dt 8 (((p1 * 5) + 4).toNat)))) (w1 := (SH, dt)) rfl ?_
    exact ⟨rfl, ⟨rfl, by first | exact True.intro | with_reducible assumption | rfl | omega | trivial⟩⟩
  · skip
    exfalso; omega
theorem sp_X0_saidOf_f (L : Nat) (xs : Nat → Int32) (sio : Option Nat) (d : Nat) (dt : Nat → Nat → Int) (hI : InvC dt)  (p1 : Int) (h_p1 : 0 ≤ p1 ∧ p1 ≤ 11) (p2 : Int) (h_p2 : 0 ≤ p2 ∧ p2 ≤ 10) (h_p0 : p1 < dt 7 3) : GO (am_XX L xs sio) (d + 1) 1 0 [some (.inr (.inr (some 1))), some (.inl p1), some (.inl p2), none] [] (SH, dt) (fun r w2 => w2 = (SH, dt) ∧ ((r = some (.inl (dt 9 (((p1 * 11) + p2)).toNat)) ∧ (-2147483648 ≤ dt 9 (((p1 * 11) + p2)).toNat ∧ dt 9 (((p1 * 11) + p2)).toNat ≤ 2147483647)))) := by
  have r1 : 0 ≤ dt 7 3 ∧ dt 7 3 ≤ 12 := InvC_get hI 7 3 rfl rfl
  refine go_toq PM1 (k := 3) (pc' := 5) (L' := [some (.inr (.inr (some 1))), some (.inl p1), some (.inl p2), none]) (st' := [.inl p1, .inr (.inr (some 7))]) (w' := (SH, dt)) rfl ?_
  refine go_callq PM1 PM37 (Q' := _) rfl rfl rfl rfl (sp_X2_has_7 L xs sio (d + 0) dt hI  p1 (by first | exact h_p1 | exact bnd h_p1 (by decide) (by decide) | exact ⟨by fail, by fail⟩) ) ?_
  rintro _ _ ⟨rfl, h2⟩
  refine ⟨rfl, ?_⟩
  rcases h2 with ⟨rfl, h2⟩ | ⟨rfl, h2⟩
  · skip
    refine go_ifq PM1 (k := 2) (p1 := 25) (p2 := 15) (L' := [some (.inr (.inr (some 1))), some (.inl p1), some (.inl p2), none]) (st' := []) (w' := (SH, dt)) rfl (z_lt (a := p2) (by first | exact bnd h_p2 (by decide) (by decide) | exact ⟨by fail, by fail⟩)) (fun c3 => ?_) (fun c3 => ?_)
    · exfalso; omega
    · skip
      refine go_ifq PM1 (k := 2) (p1 := 25) (p2 := 21) (L' := [some (.inr (.inr (some 1))), some (.inl p1), some (.inl p2), none]) (st' := []) (w' := (SH, dt)) rfl (c_ge (a := p2) (b := 11) (by first | exact bnd h_p2 (by decide) (by decide) | exact ⟨by fail, by fail⟩) ⟨by decide, by decide⟩) (fun c4 => ?_) (fun c4 => ?_)
      · exfalso; omega
      · skip
        refine go_toq PM1 (k := 12) (pc' := 41) (L' := [some (.inr (.inr (some 1))), some (.inl p1), some (.inl p2), some (.inl 1)]) (st' := [.inl ((p1 * 11) + p2), .inr (.inr (some 9))]) (w' := (SH, dt)) rfl ?_
        have r5 : (-2147483648) ≤ dt 9 (((p1 * 11) + p2).toNat) ∧ dt 9 (((p1 * 11) + p2).toNat) ≤ 2147483647 := InvC_get hI 9 (((p1 * 11) + p2).toNat) rfl rfl
        refine go_smpq PM1 (L' := [some (.inr (.inr (some 1))), some (.inl p1), some (.inl p2), some (.inl 1)]) (st' := [.inl (dt 9 (((p1 * 11) + p2).toNat))]) (w' := (SH, dt)) rfl rfl (s_iald (n := 132) (f := dt 9) rfl ⟨by omega, by omega⟩) ?_
        refine go_retq PM1 (k := 1) (r := some (.inl (dt 9 (((p1 * 11) + p2).toNat)))) (w1 := (SH, dt)) rfl ?_
        exact ⟨rfl, ⟨rfl, by first | exact True.intro | with_reducible assumption | rfl | fail | trivial⟩⟩
  · skip
    exfalso; omega
theorem sp_X4_ofLook_f44 (L : Nat) (xs : Nat → Int32) (sio : Option Nat) (d : Nat) (dt : Nat → Nat → Int) (hI : InvC dt)  (p1 : Int) (h_p1 : 0 ≤ p1 ∧ p1 ≤ 3) (p2 : Int) (h_p2 : 0 ≤ p2 ∧ p2 ≤ 2) (p3 : Int) (h_p3 : (-1) ≤ p3 ∧ p3 ≤ 3) (p4 : Int) (h_p4 : 0 ≤ p4 ∧ p4 ≤ 8)  : GO (am_XX L xs sio) (d + 2) 64 0 [some (.inr (.inr (some 43))), some (.inl p1), some (.inl p2), some (.inl p3), some (.inl p4), none, none] [] (SH, dt) (fun r w2 => w2 = (SH, dt) ∧ ((∃ v : Int, r = some (.inl v) ∧ ((-2147483648) ≤ v ∧ v ≤ 2147483647) ∧ (v = RUL (VC 44 dt) 0 p1 p2 p3 p4)))) := by
  have ex_ : ((p1 * 3) + p2).toNat = 3 * p1.toNat + p2.toNat := by omega
  have ev_ : 0 ≤ p3 → ((p3 * 3) + p2).toNat = 3 * p3.toNat + p2.toNat := by omega
  replace ev_ := hid ev_
  have ew_ : 0 ≤ p3 → ((((p3 * 4) + p1) * 3) + p2).toNat = 12 * p3.toNat + 3 * p1.toNat + p2.toNat := by omega
  replace ew_ := hid ew_
  have v3_ : VC 44 dt 3 p2.toNat = dt 47 p2.toNat := VC_r (f := 3) (by decide) (show p2.toNat < 3 by omega)
  have v4_ : VC 44 dt 4 p2.toNat = dt 48 p2.toNat := VC_r (f := 4) (by decide) (show p2.toNat < 3 by omega)
  have v5_ : VC 44 dt 5 p2.toNat = dt 49 p2.toNat := VC_r (f := 5) (by decide) (show p2.toNat < 3 by omega)
  have v8_ : VC 44 dt 8 ((p1 * 3) + p2).toNat = dt 52 ((p1 * 3) + p2).toNat := VC_r (f := 8) (by decide) (show ((p1 * 3) + p2).toNat < 12 by omega)
  have v9_ : VC 44 dt 9 ((p1 * 3) + p2).toNat = dt 53 ((p1 * 3) + p2).toNat := VC_r (f := 9) (by decide) (show ((p1 * 3) + p2).toNat < 12 by omega)
  have v10_ : VC 44 dt 10 ((p1 * 3) + p2).toNat = dt 54 ((p1 * 3) + p2).toNat := VC_r (f := 10) (by decide) (show ((p1 * 3) + p2).toNat < 12 by omega)
  have v11_ : VC 44 dt 11 ((p1 * 3) + p2).toNat = dt 55 ((p1 * 3) + p2).toNat := VC_r (f := 11) (by decide) (show ((p1 * 3) + p2).toNat < 12 by omega)
  have v8v_ : 0 ≤ p3 → VC 44 dt 8 ((p3 * 3) + p2).toNat = dt 52 ((p3 * 3) + p2).toNat := fun _ => VC_r (f := 8) (by decide) (show ((p3 * 3) + p2).toNat < 12 by omega)
  replace v8v_ := hid v8v_
  have v12_ : 0 ≤ p3 → VC 44 dt 12 ((((p3 * 4) + p1) * 3) + p2).toNat = dt 56 ((((p3 * 4) + p1) * 3) + p2).toNat := fun _ => VC_r (f := 12) (by decide) (show ((((p3 * 4) + p1) * 3) + p2).toNat < 48 by omega)
  replace v12_ := hid v12_
  refine go_toq PM64 (k := 1) (pc' := 1) (L' := [some (.inr (.inr (some 43))), some (.inl p1), some (.inl p2), some (.inl p3), some (.inl p4), none, none]) (st' := [.inl p1]) (w' := (SH, dt)) rfl ?_
  refine go_callq PM64 PM105 (Q' := _) rfl rfl rfl rfl (sp_X5_isWho L xs sio (d + 0) dt hI  p1 (by first | exact h_p1 | exact bnd h_p1 (by decide) (by decide) | exact ⟨by fail, by fail⟩) ) ?_
  rintro _ _ ⟨rfl, h1⟩
  refine ⟨rfl, ?_⟩
  rcases h1 with ⟨rfl, h1⟩ | ⟨rfl, h1⟩
  · skip
    refine go_toq PM64 (k := 2) (pc' := 8) (L' := [some (.inr (.inr (some 43))), some (.inl p1), some (.inl p2), some (.inl p3), some (.inl p4), none, none]) (st' := [.inl p2]) (w' := (SH, dt)) rfl ?_
    refine go_callq PM64 PM104 (Q' := _) rfl rfl rfl rfl (sp_X5_isThing L xs sio (d + 0) dt hI  p2 (by first | exact h_p2 | exact bnd h_p2 (by decide) (by decide) | exact ⟨by fail, by fail⟩) ) ?_
    rintro _ _ ⟨rfl, h2⟩
    refine ⟨rfl, ?_⟩
    rcases h2 with ⟨rfl, h2⟩ | ⟨rfl, h2⟩
    · skip
      refine go_toq PM64 (k := 8) (pc' := 24) (L' := [some (.inr (.inr (some 43))), some (.inl p1), some (.inl p2), some (.inl p3), some (.inl p4), some (.inl ((p1 * 3) + p2)), none]) (st' := [.inl p3]) (w' := (SH, dt)) rfl ?_
      refine go_callq PM64 PM105 (Q' := _) rfl rfl rfl rfl (sp_X5_isWho L xs sio (d + 0) dt hI  p3 (by first | exact h_p3 | exact bnd h_p3 (by decide) (by decide) | exact ⟨by fail, by fail⟩) ) ?_
      rintro _ _ ⟨rfl, h3⟩
      refine ⟨rfl, ?_⟩
      rcases h3 with ⟨rfl, h3⟩ | ⟨rfl, h3⟩
      · skip
        have r4 := wr_RR p4
        refine go_toq PM64 (k := 2) (pc' := 31) (L' := [some (.inr (.inr (some 43))), some (.inl p1), some (.inl p2), some (.inl p3), some (.inl p4), some (.inl ((p1 * 3) + p2)), some (.inl 1)]) (st' := [.inl p4]) (w' := (SH, dt)) rfl ?_
        have e6 : wr p4 = p4 := wr_R ⟨by omega, by omega⟩
        by_cases c5 : wr p4 < 0 ∨ 7 < wr p4
        · refine go_swoq PM64 (p1 := 188) (lo := 0) (hi := 7) rfl rfl c5 ?_
          refine go_toq PM64 (k := 3) (pc' := 194) (L' := [some (.inr (.inr (some 43))), some (.inl p1), some (.inl p2), some (.inl p3), some (.inl p4), some (.inl ((p1 * 3) + p2)), some (.inl 1)]) (st' := [.inl ((p1 * 3) + p2), .inr (.inr (some 52))]) (w' := (SH, dt)) rfl ?_
          have r7 : (-2147483648) ≤ dt 52 (((p1 * 3) + p2).toNat) ∧ dt 52 (((p1 * 3) + p2).toNat) ≤ 2147483647 := InvC_get hI 52 (((p1 * 3) + p2).toNat) rfl rfl
          refine go_smpq PM64 (L' := [some (.inr (.inr (some 43))), some (.inl p1), some (.inl p2), some (.inl p3), some (.inl p4), some (.inl ((p1 * 3) + p2)), some (.inl 1)]) (st' := [.inl (dt 52 (((p1 * 3) + p2).toNat))]) (w' := (SH, dt)) rfl rfl (s_iald (n := 12) (f := dt 52) rfl ⟨by omega, by omega⟩) ?_
          refine go_retq PM64 (k := 0) (r := some (.inl (dt 52 (((p1 * 3) + p2).toNat)))) (w1 := (SH, dt)) rfl ?_
          exact ⟨rfl, ⟨_, rfl, (by first | exact bnd r7 (by decide) (by decide) | exact ⟨by fail, by fail⟩), by first | (exfalso; fail) | (unfold RUL; rw [← ex_]; (repeat (first | rw [if_pos (by fail)] | rw [if_neg (by omega)])); first | omega | (rw [← ev_ (by fail)]; fail) | (rw [← ew_ (by fail)]; fail))⟩⟩
        · have c8 : wr p4 = 0 ∨ wr p4 = 1 ∨ wr p4 = 2 ∨ wr p4 = 3 ∨ wr p4 = 4 ∨ wr p4 = 5 ∨ wr p4 = 6 ∨ wr p4 = 7 := by omega
          rcases c8 with c8 | c8 | c8 | c8 | c8 | c8 | c8 | c8
          · refine go_swiq PM64 (v := 0) (p1 := 76) (lo := 0) (hi := 7) rfl c8 (by decide) rfl ?_
            refine go_toq PM64 (k := 3) (pc' := 81) (L' := [some (.inr (.inr (some 43))), some (.inl p1), some (.inl p2), some (.inl p3), some (.inl p4), some (.inl ((p1 * 3) + p2)), some (.inl 1)]) (st' := [.inl p2, .inr (.inr (some 47))]) (w' := (SH, dt)) rfl ?_
            have r9 : (-2147483648) ≤ dt 47 (p2).toNat ∧ dt 47 (p2).toNat ≤ 2147483647 := InvC_get hI 47 (p2).toNat rfl rfl
            refine go_smpq PM64 (L' := [some (.inr (.inr (some 43))), some (.inl p1), some (.inl p2), some (.inl p3), some (.inl p4), some (.inl ((p1 * 3) + p2)), some (.inl 1)]) (st' := [.inl (dt 47 (p2).toNat)]) (w' := (SH, dt)) rfl rfl (s_iald (n := 3) (f := dt 47) rfl (by first | exact bndx h_p2 (by decide) (by decide) | exact ⟨by fail, by fail⟩)) ?_
            refine go_retq PM64 (k := 0) (r := some (.inl (dt 47 (p2).toNat))) (w1 := (SH, dt)) rfl ?_
            exact ⟨rfl, ⟨_, rfl, (by first | exact bnd r9 (by decide) (by decide) | exact ⟨by fail, by fail⟩), by first | (exfalso; fail) | (unfold RUL; rw [← ex_]; (repeat (first | rw [if_pos (by omega)] | rw [if_neg (by omega)])); first | omega | (rw [← ev_ (by fail)]; fail) | (rw [← ew_ (by fail)]; fail))⟩⟩
          · refine go_swiq PM64 (v := 1) (p1 := 188) (lo := 0) (hi := 7) rfl c8 (by decide) rfl ?_
            refine go_toq PM64 (k := 3) (pc' := 194) (L' := [some (.inr (.inr (some 43))), some (.inl p1), some (.inl p2), some (.inl p3), some (.inl p4), some (.inl ((p1 * 3) + p2)), some (.inl 1)]) (st' := [.inl ((p1 * 3) + p2), .inr (.inr (some 52))]) (w' := (SH, dt)) rfl ?_
            have r10 : (-2147483648) ≤ dt 52 (((p1 * 3) + p2).toNat) ∧ dt 52 (((p1 * 3) + p2).toNat) ≤ 2147483647 := InvC_get hI 52 (((p1 * 3) + p2).toNat) rfl rfl
            refine go_smpq PM64 (L' := [some (.inr (.inr (some 43))), some (.inl p1), some (.inl p2), some (.inl p3), some (.inl p4), some (.inl ((p1 * 3) + p2)), some (.inl 1)]) (st' := [.inl (dt 52 (((p1 * 3) + p2).toNat))]) (w' := (SH, dt)) rfl rfl (s_iald (n := 12) (f := dt 52) rfl ⟨by omega, by omega⟩) ?_
            refine go_retq PM64 (k := 0) (r := some (.inl (dt 52 (((p1 * 3) + p2).toNat)))) (w1 := (SH, dt)) rfl ?_
            exact ⟨rfl, ⟨_, rfl, (by first | exact bnd r10 (by decide) (by decide) | exact ⟨by fail, by fail⟩), by first | (exfalso; fail) | (unfold RUL; rw [← ex_]; (repeat (first | rw [if_pos (by fail)] | rw [if_neg (by omega)])); first | omega | (rw [← ev_ (by fail)]; fail) | (rw [← ew_ (by fail)]; fail))⟩⟩
          · refine go_swiq PM64 (v := 2) (p1 := 83) (lo := 0) (hi := 7) rfl c8 (by decide) rfl ?_
            refine go_toq PM64 (k := 3) (pc' := 89) (L' := [some (.inr (.inr (some 43))), some (.inl p1), some (.inl p2), some (.inl p3), some (.inl p4), some (.inl ((p1 * 3) + p2)), some (.inl 1)]) (st' := [.inl ((p1 * 3) + p2), .inr (.inr (some 53))]) (w' := (SH, dt)) rfl ?_
            have r11 : (-2147483648) ≤ dt 53 (((p1 * 3) + p2).toNat) ∧ dt 53 (((p1 * 3) + p2).toNat) ≤ 2147483647 := InvC_get hI 53 (((p1 * 3) + p2).toNat) rfl rfl
            refine go_smpq PM64 (L' := [some (.inr (.inr (some 43))), some (.inl p1), some (.inl p2), some (.inl p3), some (.inl p4), some (.inl ((p1 * 3) + p2)), some (.inl 1)]) (st' := [.inl (dt 53 (((p1 * 3) + p2).toNat))]) (w' := (SH, dt)) rfl rfl (s_iald (n := 12) (f := dt 53) rfl ⟨by omega, by omega⟩) ?_
            refine go_retq PM64 (k := 0) (r := some (.inl (dt 53 (((p1 * 3) + p2).toNat)))) (w1 := (SH, dt)) rfl ?_
            exact ⟨rfl, ⟨_, rfl, (by first | exact bnd r11 (by decide) (by decide) | exact ⟨by fail, by fail⟩), by first | (exfalso; fail) | (unfold RUL; rw [← ex_]; (repeat (first | rw [if_pos (by omega)] | rw [if_neg (by omega)])); first | omega | (rw [← ev_ (by fail)]; fail) | (rw [← ew_ (by fail)]; fail))⟩⟩
          · refine go_swiq PM64 (v := 3) (p1 := 91) (lo := 0) (hi := 7) rfl c8 (by decide) rfl ?_
            refine go_toq PM64 (k := 3) (pc' := 97) (L' := [some (.inr (.inr (some 43))), some (.inl p1), some (.inl p2), some (.inl p3), some (.inl p4), some (.inl ((p1 * 3) + p2)), some (.inl 1)]) (st' := [.inl ((p1 * 3) + p2), .inr (.inr (some 54))]) (w' := (SH, dt)) rfl ?_
            have r12 : (-2147483648) ≤ dt 54 (((p1 * 3) + p2).toNat) ∧ dt 54 (((p1 * 3) + p2).toNat) ≤ 2147483647 := InvC_get hI 54 (((p1 * 3) + p2).toNat) rfl rfl
            refine go_smpq PM64 (L' := [some (.inr (.inr (some 43))), some (.inl p1), some (.inl p2), some (.inl p3), some (.inl p4), some (.inl ((p1 * 3) + p2)), some (.inl 1)]) (st' := [.inl (dt 54 (((p1 * 3) + p2).toNat))]) (w' := (SH, dt)) rfl rfl (s_iald (n := 12) (f := dt 54) rfl ⟨by omega, by omega⟩) ?_
            refine go_retq PM64 (k := 0) (r := some (.inl (dt 54 (((p1 * 3) + p2).toNat)))) (w1 := (SH, dt)) rfl ?_
            exact ⟨rfl, ⟨_, rfl, (by first | exact bnd r12 (by decide) (by decide) | exact ⟨by fail, by fail⟩), by first | (exfalso; fail) | (unfold RUL; rw [← ex_]; (repeat (first | rw [if_pos (by omega)] | rw [if_neg (by omega)])); first | omega | (rw [← ev_ (by fail)]; fail) | (rw [← ew_ (by fail)]; fail))⟩⟩
          · refine go_swiq PM64 (v := 4) (p1 := 99) (lo := 0) (hi := 7) rfl c8 (by decide) rfl ?_
            refine go_toq PM64 (k := 3) (pc' := 105) (L' := [some (.inr (.inr (some 43))), some (.inl p1), some (.inl p2), some (.inl p3), some (.inl p4), some (.inl ((p1 * 3) + p2)), some (.inl 1)]) (st' := [.inl ((p1 * 3) + p2), .inr (.inr (some 55))]) (w' := (SH, dt)) rfl ?_
            have r13 : (-2147483648) ≤ dt 55 (((p1 * 3) + p2).toNat) ∧ dt 55 (((p1 * 3) + p2).toNat) ≤ 2147483647 := InvC_get hI 55 (((p1 * 3) + p2).toNat) rfl rfl
            refine go_smpq PM64 (L' := [some (.inr (.inr (some 43))), some (.inl p1), some (.inl p2), some (.inl p3), some (.inl p4), some (.inl ((p1 * 3) + p2)), some (.inl 1)]) (st' := [.inl (dt 55 (((p1 * 3) + p2).toNat))]) (w' := (SH, dt)) rfl rfl (s_iald (n := 12) (f := dt 55) rfl ⟨by omega, by omega⟩) ?_
            refine go_ifq PM64 (k := 1) (p1 := 119) (p2 := 110) (L' := [some (.inr (.inr (some 43))), some (.inl p1), some (.inl p2), some (.inl p3), some (.inl p4), some (.inl ((p1 * 3) + p2)), some (.inl 1)]) (st' := []) (w' := (SH, dt)) rfl (c_ne (a := dt 55 (((p1 * 3) + p2).toNat)) (b := 1) (by first | exact bnd r13 (by decide) (by decide) | exact ⟨by fail, by fail⟩) ⟨by decide, by decide⟩) (fun c14 => ?_) (fun c14 => ?_)
            · skip
              replace c14 := hid c14
              refine go_toq PM64 (k := 3) (pc' := 124) (L' := [some (.inr (.inr (some 43))), some (.inl p1), some (.inl p2), some (.inl p3), some (.inl p4), some (.inl ((p1 * 3) + p2)), some (.inl 1)]) (st' := [.inl p2, .inr (.inr (some 48))]) (w' := (SH, dt)) rfl ?_
              have r15 : (-2147483648) ≤ dt 48 (p2).toNat ∧ dt 48 (p2).toNat ≤ 2147483647 := InvC_get hI 48 (p2).toNat rfl rfl
              have u2_ := hid (And.intro (unhid ev_) (And.intro (unhid ew_) (And.intro (unhid v8v_) (And.intro (unhid v12_) (unhid c14)))))
              refine go_smpq PM64 (L' := [some (.inr (.inr (some 43))), some (.inl p1), some (.inl p2), some (.inl p3), some (.inl p4), some (.inl ((p1 * 3) + p2)), some (.inl 1)]) (st' := [.inl (dt 48 (p2).toNat)]) (w' := (SH, dt)) rfl rfl (s_iald (n := 3) (f := dt 48) rfl (by first | exact bndx h_p2 (by decide) (by decide) | exact ⟨by fail, by fail⟩)) ?_
              refine go_retq PM64 (k := 0) (r := some (.inl (dt 48 (p2).toNat))) (w1 := (SH, dt)) rfl ?_
              exact ⟨rfl, ⟨_, rfl, (by first | exact bnd r15 (by decide) (by decide) | exact ⟨by fail, by fail⟩), by first | (exfalso; fail) | (unfold RUL; rw [← ex_]; (repeat (first | rw [if_pos (by omega)] | rw [if_neg (by (first | omega | (have z_ := unhid u2_; omega)))])); first | omega | (rw [← ev_ (by fail)]; fail) | (rw [← ew_ (by fail)]; fail))⟩⟩
            · skip
              refine go_toq PM64 (k := 3) (pc' := 115) (L' := [some (.inr (.inr (some 43))), some (.inl p1), some (.inl p2), some (.inl p3), some (.inl p4), some (.inl ((p1 * 3) + p2)), some (.inl 1)]) (st' := [.inl p2, .inr (.inr (some 47))]) (w' := (SH, dt)) rfl ?_
              have r16 : (-2147483648) ≤ dt 47 (p2).toNat ∧ dt 47 (p2).toNat ≤ 2147483647 := InvC_get hI 47 (p2).toNat rfl rfl
              refine go_smpq PM64 (L' := [some (.inr (.inr (some 43))), some (.inl p1), some (.inl p2), some (.inl p3), some (.inl p4), some (.inl ((p1 * 3) + p2)), some (.inl 1)]) (st' := [.inl (dt 47 (p2).toNat)]) (w' := (SH, dt)) rfl rfl (s_iald (n := 3) (f := dt 47) rfl (by first | exact bndx h_p2 (by decide) (by decide) | exact ⟨by fail, by fail⟩)) ?_
              refine go_retq PM64 (k := 1) (r := some (.inl (dt 47 (p2).toNat))) (w1 := (SH, dt)) rfl ?_
              exact ⟨rfl, ⟨_, rfl, (by first | exact bnd r16 (by decide) (by decide) | exact ⟨by fail, by fail⟩), by first | (exfalso; fail) | (unfold RUL; rw [← ex_]; (repeat (first | rw [if_pos (by omega)] | rw [if_neg (by omega)])); first | omega | (rw [← ev_ (by fail)]; fail) | (rw [← ew_ (by fail)]; fail))⟩⟩
          · refine go_swiq PM64 (v := 5) (p1 := 126) (lo := 0) (hi := 7) rfl c8 (by decide) rfl ?_
            refine go_toq PM64 (k := 9) (pc' := 140) (L' := [some (.inr (.inr (some 43))), some (.inl p1), some (.inl p2), some (.inl p3), some (.inl p4), some (.inl ((p1 * 3) + p2)), some (.inl 1)]) (st' := [.inl ((p3 * 3) + p2), .inr (.inr (some 52))]) (w' := (SH, dt)) rfl ?_
            have r17 : (-2147483648) ≤ dt 52 (((p3 * 3) + p2).toNat) ∧ dt 52 (((p3 * 3) + p2).toNat) ≤ 2147483647 := InvC_get hI 52 (((p3 * 3) + p2).toNat) rfl rfl
            refine go_smpq PM64 (L' := [some (.inr (.inr (some 43))), some (.inl p1), some (.inl p2), some (.inl p3), some (.inl p4), some (.inl ((p1 * 3) + p2)), some (.inl 1)]) (st' := [.inl (dt 52 (((p3 * 3) + p2).toNat))]) (w' := (SH, dt)) rfl rfl (s_iald (n := 12) (f := dt 52) rfl ⟨by omega, by omega⟩) ?_
            refine go_retq PM64 (k := 1) (r := some (.inl (dt 52 (((p3 * 3) + p2).toNat)))) (w1 := (SH, dt)) rfl ?_
            exact ⟨rfl, ⟨_, rfl, (by first | exact bnd r17 (by decide) (by decide) | exact ⟨by fail, by fail⟩), by first | (exfalso; fail) | (unfold RUL; rw [← ex_]; (repeat (first | rw [if_pos (by omega)] | rw [if_neg (by omega)])); first | fail | (rw [← ev_ (by omega)]; (have z_ := unhid v8v_; omega)) | (rw [← ew_ (by fail)]; fail))⟩⟩
          · refine go_swiq PM64 (v := 6) (p1 := 151) (lo := 0) (hi := 7) rfl c8 (by decide) rfl ?_
            refine go_toq PM64 (k := 13) (pc' := 169) (L' := [some (.inr (.inr (some 43))), some (.inl p1), some (.inl p2), some (.inl p3), some (.inl p4), some (.inl ((p1 * 3) + p2)), some (.inl 1)]) (st' := [.inl ((((p3 * 4) + p1) * 3) + p2), .inr (.inr (some 56))]) (w' := (SH, dt)) rfl ?_
            have r18 : (-2147483648) ≤ dt 56 (((((p3 * 4) + p1) * 3) + p2).toNat) ∧ dt 56 (((((p3 * 4) + p1) * 3) + p2).toNat) ≤ 2147483647 := InvC_get hI 56 (((((p3 * 4) + p1) * 3) + p2).toNat) rfl rfl
            refine go_smpq PM64 (L' := [some (.inr (.inr (some 43))), some (.inl p1), some (.inl p2), some (.inl p3), some (.inl p4), some (.inl ((p1 * 3) + p2)), some (.inl 1)]) (st' := [.inl (dt 56 (((((p3 * 4) + p1) * 3) + p2).toNat))]) (w' := (SH, dt)) rfl rfl (s_iald (n := 48) (f := dt 56) rfl ⟨by omega, by omega⟩) ?_
            refine go_retq PM64 (k := 1) (r := some (.inl (dt 56 (((((p3 * 4) + p1) * 3) + p2).toNat)))) (w1 := (SH, dt)) rfl ?_
            exact ⟨rfl, ⟨_, rfl, (by first | exact bnd r18 (by decide) (by decide) | exact ⟨by fail, by fail⟩), by first | (exfalso; fail) | (unfold RUL; rw [← ex_]; (repeat (first | rw [if_pos (by omega)] | rw [if_neg (by omega)])); first | fail | (rw [← ev_ (by fail)]; fail) | (rw [← ew_ (by omega)]; (have z_ := unhid v12_; omega)))⟩⟩
          · refine go_swiq PM64 (v := 7) (p1 := 181) (lo := 0) (hi := 7) rfl c8 (by decide) rfl ?_
            refine go_toq PM64 (k := 3) (pc' := 186) (L' := [some (.inr (.inr (some 43))), some (.inl p1), some (.inl p2), some (.inl p3), some (.inl p4), some (.inl ((p1 * 3) + p2)), some (.inl 1)]) (st' := [.inl p2, .inr (.inr (some 49))]) (w' := (SH, dt)) rfl ?_
            have r19 : (-2147483648) ≤ dt 49 (p2).toNat ∧ dt 49 (p2).toNat ≤ 2147483647 := InvC_get hI 49 (p2).toNat rfl rfl
            refine go_smpq PM64 (L' := [some (.inr (.inr (some 43))), some (.inl p1), some (.inl p2), some (.inl p3), some (.inl p4), some (.inl ((p1 * 3) + p2)), some (.inl 1)]) (st' := [.inl (dt 49 (p2).toNat)]) (w' := (SH, dt)) rfl rfl (s_iald (n := 3) (f := dt 49) rfl (by first | exact bndx h_p2 (by decide) (by decide) | exact ⟨by fail, by fail⟩)) ?_
            refine go_retq PM64 (k := 0) (r := some (.inl (dt 49 (p2).toNat))) (w1 := (SH, dt)) rfl ?_
            exact ⟨rfl, ⟨_, rfl, (by first | exact bnd r19 (by decide) (by decide) | exact ⟨by fail, by fail⟩), by first | (exfalso; fail) | (unfold RUL; rw [← ex_]; (repeat (first | rw [if_pos (by omega)] | rw [if_neg (by omega)])); first | omega | (rw [← ev_ (by fail)]; fail) | (rw [← ew_ (by fail)]; fail))⟩⟩
      · skip
        have r20 := wr_RR p4
        refine go_toq PM64 (k := 2) (pc' := 31) (L' := [some (.inr (.inr (some 43))), some (.inl p1), some (.inl p2), some (.inl p3), some (.inl p4), some (.inl ((p1 * 3) + p2)), some (.inl 0)]) (st' := [.inl p4]) (w' := (SH, dt)) rfl ?_
        have e22 : wr p4 = p4 := wr_R ⟨by omega, by omega⟩
        by_cases c21 : wr p4 < 0 ∨ 7 < wr p4
        · refine go_swoq PM64 (p1 := 188) (lo := 0) (hi := 7) rfl rfl c21 ?_
          refine go_toq PM64 (k := 3) (pc' := 194) (L' := [some (.inr (.inr (some 43))), some (.inl p1), some (.inl p2), some (.inl p3), some (.inl p4), some (.inl ((p1 * 3) + p2)), some (.inl 0)]) (st' := [.inl ((p1 * 3) + p2), .inr (.inr (some 52))]) (w' := (SH, dt)) rfl ?_
          have r23 : (-2147483648) ≤ dt 52 (((p1 * 3) + p2).toNat) ∧ dt 52 (((p1 * 3) + p2).toNat) ≤ 2147483647 := InvC_get hI 52 (((p1 * 3) + p2).toNat) rfl rfl
          refine go_smpq PM64 (L' := [some (.inr (.inr (some 43))), some (.inl p1), some (.inl p2), some (.inl p3), some (.inl p4), some (.inl ((p1 * 3) + p2)), some (.inl 0)]) (st' := [.inl (dt 52 (((p1 * 3) + p2).toNat))]) (w' := (SH, dt)) rfl rfl (s_iald (n := 12) (f := dt 52) rfl ⟨by omega, by omega⟩) ?_
          refine go_retq PM64 (k := 0) (r := some (.inl (dt 52 (((p1 * 3) + p2).toNat)))) (w1 := (SH, dt)) rfl ?_
          exact ⟨rfl, ⟨_, rfl, (by first | exact bnd r23 (by decide) (by decide) | exact ⟨by fail, by fail⟩), by first | (exfalso; fail) | (unfold RUL; rw [← ex_]; (repeat (first | rw [if_pos (by fail)] | rw [if_neg (by omega)])); first | omega | (rw [← ev_ (by fail)]; fail) | (rw [← ew_ (by fail)]; fail))⟩⟩
        · have c24 : wr p4 = 0 ∨ wr p4 = 1 ∨ wr p4 = 2 ∨ wr p4 = 3 ∨ wr p4 = 4 ∨ wr p4 = 5 ∨ wr p4 = 6 ∨ wr p4 = 7 := by omega
          rcases c24 with c24 | c24 | c24 | c24 | c24 | c24 | c24 | c24
          · refine go_swiq PM64 (v := 0) (p1 := 76) (lo := 0) (hi := 7) rfl c24 (by decide) rfl ?_
            refine go_toq PM64 (k := 3) (pc' := 81) (L' := [some (.inr (.inr (some 43))), some (.inl p1), some (.inl p2), some (.inl p3), some (.inl p4), some (.inl ((p1 * 3) + p2)), some (.inl 0)]) (st' := [.inl p2, .inr (.inr (some 47))]) (w' := (SH, dt)) rfl ?_
            have r25 : (-2147483648) ≤ dt 47 (p2).toNat ∧ dt 47 (p2).toNat ≤ 2147483647 := InvC_get hI 47 (p2).toNat rfl rfl
            refine go_smpq PM64 (L' := [some (.inr (.inr (some 43))), some (.inl p1), some (.inl p2), some (.inl p3), some (.inl p4), some (.inl ((p1 * 3) + p2)), some (.inl 0)]) (st' := [.inl (dt 47 (p2).toNat)]) (w' := (SH, dt)) rfl rfl (s_iald (n := 3) (f := dt 47) rfl (by first | exact bndx h_p2 (by decide) (by decide) | exact ⟨by fail, by fail⟩)) ?_
            refine go_retq PM64 (k := 0) (r := some (.inl (dt 47 (p2).toNat))) (w1 := (SH, dt)) rfl ?_
            exact ⟨rfl, ⟨_, rfl, (by first | exact bnd r25 (by decide) (by decide) | exact ⟨by fail, by fail⟩), by first | (exfalso; fail) | (unfold RUL; rw [← ex_]; (repeat (first | rw [if_pos (by omega)] | rw [if_neg (by omega)])); first | omega | (rw [← ev_ (by fail)]; fail) | (rw [← ew_ (by fail)]; fail))⟩⟩
          · refine go_swiq PM64 (v := 1) (p1 := 188) (lo := 0) (hi := 7) rfl c24 (by decide) rfl ?_
            refine go_toq PM64 (k := 3) (pc' := 194) (L' := [some (.inr (.inr (some 43))), some (.inl p1), some (.inl p2), some (.inl p3), some (.inl p4), some (.inl ((p1 * 3) + p2)), some (.inl 0)]) (st' := [.inl ((p1 * 3) + p2), .inr (.inr (some 52))]) (w' := (SH, dt)) rfl ?_
            have r26 : (-2147483648) ≤ dt 52 (((p1 * 3) + p2).toNat) ∧ dt 52 (((p1 * 3) + p2).toNat) ≤ 2147483647 := InvC_get hI 52 (((p1 * 3) + p2).toNat) rfl rfl
            refine go_smpq PM64 (L' := [some (.inr (.inr (some 43))), some (.inl p1), some (.inl p2), some (.inl p3), some (.inl p4), some (.inl ((p1 * 3) + p2)), some (.inl 0)]) (st' := [.inl (dt 52 (((p1 * 3) + p2).toNat))]) (w' := (SH, dt)) rfl rfl (s_iald (n := 12) (f := dt 52) rfl ⟨by omega, by omega⟩) ?_
            refine go_retq PM64 (k := 0) (r := some (.inl (dt 52 (((p1 * 3) + p2).toNat)))) (w1 := (SH, dt)) rfl ?_
            exact ⟨rfl, ⟨_, rfl, (by first | exact bnd r26 (by decide) (by decide) | exact ⟨by fail, by fail⟩), by first | (exfalso; fail) | (unfold RUL; rw [← ex_]; (repeat (first | rw [if_pos (by fail)] | rw [if_neg (by omega)])); first | omega | (rw [← ev_ (by fail)]; fail) | (rw [← ew_ (by fail)]; fail))⟩⟩
          · refine go_swiq PM64 (v := 2) (p1 := 83) (lo := 0) (hi := 7) rfl c24 (by decide) rfl ?_
            refine go_toq PM64 (k := 3) (pc' := 89) (L' := [some (.inr (.inr (some 43))), some (.inl p1), some (.inl p2), some (.inl p3), some (.inl p4), some (.inl ((p1 * 3) + p2)), some (.inl 0)]) (st' := [.inl ((p1 * 3) + p2), .inr (.inr (some 53))]) (w' := (SH, dt)) rfl ?_
            have r27 : (-2147483648) ≤ dt 53 (((p1 * 3) + p2).toNat) ∧ dt 53 (((p1 * 3) + p2).toNat) ≤ 2147483647 := InvC_get hI 53 (((p1 * 3) + p2).toNat) rfl rfl
            refine go_smpq PM64 (L' := [some (.inr (.inr (some 43))), some (.inl p1), some (.inl p2), some (.inl p3), some (.inl p4), some (.inl ((p1 * 3) + p2)), some (.inl 0)]) (st' := [.inl (dt 53 (((p1 * 3) + p2).toNat))]) (w' := (SH, dt)) rfl rfl (s_iald (n := 12) (f := dt 53) rfl ⟨by omega, by omega⟩) ?_
            refine go_retq PM64 (k := 0) (r := some (.inl (dt 53 (((p1 * 3) + p2).toNat)))) (w1 := (SH, dt)) rfl ?_
            exact ⟨rfl, ⟨_, rfl, (by first | exact bnd r27 (by decide) (by decide) | exact ⟨by fail, by fail⟩), by first | (exfalso; fail) | (unfold RUL; rw [← ex_]; (repeat (first | rw [if_pos (by omega)] | rw [if_neg (by omega)])); first | omega | (rw [← ev_ (by fail)]; fail) | (rw [← ew_ (by fail)]; fail))⟩⟩
          · refine go_swiq PM64 (v := 3) (p1 := 91) (lo := 0) (hi := 7) rfl c24 (by decide) rfl ?_
            refine go_toq PM64 (k := 3) (pc' := 97) (L' := [some (.inr (.inr (some 43))), some (.inl p1), some (.inl p2), some (.inl p3), some (.inl p4), some (.inl ((p1 * 3) + p2)), some (.inl 0)]) (st' := [.inl ((p1 * 3) + p2), .inr (.inr (some 54))]) (w' := (SH, dt)) rfl ?_
            have r28 : (-2147483648) ≤ dt 54 (((p1 * 3) + p2).toNat) ∧ dt 54 (((p1 * 3) + p2).toNat) ≤ 2147483647 := InvC_get hI 54 (((p1 * 3) + p2).toNat) rfl rfl
            refine go_smpq PM64 (L' := [some (.inr (.inr (some 43))), some (.inl p1), some (.inl p2), some (.inl p3), some (.inl p4), some (.inl ((p1 * 3) + p2)), some (.inl 0)]) (st' := [.inl (dt 54 (((p1 * 3) + p2).toNat))]) (w' := (SH, dt)) rfl rfl (s_iald (n := 12) (f := dt 54) rfl ⟨by omega, by omega⟩) ?_
            refine go_retq PM64 (k := 0) (r := some (.inl (dt 54 (((p1 * 3) + p2).toNat)))) (w1 := (SH, dt)) rfl ?_
            exact ⟨rfl, ⟨_, rfl, (by first | exact bnd r28 (by decide) (by decide) | exact ⟨by fail, by fail⟩), by first | (exfalso; fail) | (unfold RUL; rw [← ex_]; (repeat (first | rw [if_pos (by omega)] | rw [if_neg (by omega)])); first | omega | (rw [← ev_ (by fail)]; fail) | (rw [← ew_ (by fail)]; fail))⟩⟩
          · refine go_swiq PM64 (v := 4) (p1 := 99) (lo := 0) (hi := 7) rfl c24 (by decide) rfl ?_
            refine go_toq PM64 (k := 3) (pc' := 105) (L' := [some (.inr (.inr (some 43))), some (.inl p1), some (.inl p2), some (.inl p3), some (.inl p4), some (.inl ((p1 * 3) + p2)), some (.inl 0)]) (st' := [.inl ((p1 * 3) + p2), .inr (.inr (some 55))]) (w' := (SH, dt)) rfl ?_
            have r29 : (-2147483648) ≤ dt 55 (((p1 * 3) + p2).toNat) ∧ dt 55 (((p1 * 3) + p2).toNat) ≤ 2147483647 := InvC_get hI 55 (((p1 * 3) + p2).toNat) rfl rfl
            refine go_smpq PM64 (L' := [some (.inr (.inr (some 43))), some (.inl p1), some (.inl p2), some (.inl p3), some (.inl p4), some (.inl ((p1 * 3) + p2)), some (.inl 0)]) (st' := [.inl (dt 55 (((p1 * 3) + p2).toNat))]) (w' := (SH, dt)) rfl rfl (s_iald (n := 12) (f := dt 55) rfl ⟨by omega, by omega⟩) ?_
            refine go_ifq PM64 (k := 1) (p1 := 119) (p2 := 110) (L' := [some (.inr (.inr (some 43))), some (.inl p1), some (.inl p2), some (.inl p3), some (.inl p4), some (.inl ((p1 * 3) + p2)), some (.inl 0)]) (st' := []) (w' := (SH, dt)) rfl (c_ne (a := dt 55 (((p1 * 3) + p2).toNat)) (b := 1) (by first | exact bnd r29 (by decide) (by decide) | exact ⟨by fail, by fail⟩) ⟨by decide, by decide⟩) (fun c30 => ?_) (fun c30 => ?_)
            · skip
              replace c30 := hid c30
              refine go_toq PM64 (k := 3) (pc' := 124) (L' := [some (.inr (.inr (some 43))), some (.inl p1), some (.inl p2), some (.inl p3), some (.inl p4), some (.inl ((p1 * 3) + p2)), some (.inl 0)]) (st' := [.inl p2, .inr (.inr (some 48))]) (w' := (SH, dt)) rfl ?_
              have r31 : (-2147483648) ≤ dt 48 (p2).toNat ∧ dt 48 (p2).toNat ≤ 2147483647 := InvC_get hI 48 (p2).toNat rfl rfl
              have u3_ := hid (And.intro (unhid ev_) (And.intro (unhid ew_) (And.intro (unhid v8v_) (And.intro (unhid v12_) (unhid c30)))))
              refine go_smpq PM64 (L' := [some (.inr (.inr (some 43))), some (.inl p1), some (.inl p2), some (.inl p3), some (.inl p4), some (.inl ((p1 * 3) + p2)), some (.inl 0)]) (st' := [.inl (dt 48 (p2).toNat)]) (w' := (SH, dt)) rfl rfl (s_iald (n := 3) (f := dt 48) rfl (by first | exact bndx h_p2 (by decide) (by decide) | exact ⟨by fail, by fail⟩)) ?_
              refine go_retq PM64 (k := 0) (r := some (.inl (dt 48 (p2).toNat))) (w1 := (SH, dt)) rfl ?_
              exact ⟨rfl, ⟨_, rfl, (by first | exact bnd r31 (by decide) (by decide) | exact ⟨by fail, by fail⟩), by first | (exfalso; fail) | (unfold RUL; rw [← ex_]; (repeat (first | rw [if_pos (by omega)] | rw [if_neg (by (first | omega | (have z_ := unhid u3_; omega)))])); first | omega | (rw [← ev_ (by fail)]; fail) | (rw [← ew_ (by fail)]; fail))⟩⟩
            · skip
              refine go_toq PM64 (k := 3) (pc' := 115) (L' := [some (.inr (.inr (some 43))), some (.inl p1), some (.inl p2), some (.inl p3), some (.inl p4), some (.inl ((p1 * 3) + p2)), some (.inl 0)]) (st' := [.inl p2, .inr (.inr (some 47))]) (w' := (SH, dt)) rfl ?_
              have r32 : (-2147483648) ≤ dt 47 (p2).toNat ∧ dt 47 (p2).toNat ≤ 2147483647 := InvC_get hI 47 (p2).toNat rfl rfl
              refine go_smpq PM64 (L' := [some (.inr (.inr (some 43))), some (.inl p1), some (.inl p2), some (.inl p3), some (.inl p4), some (.inl ((p1 * 3) + p2)), some (.inl 0)]) (st' := [.inl (dt 47 (p2).toNat)]) (w' := (SH, dt)) rfl rfl (s_iald (n := 3) (f := dt 47) rfl (by first | exact bndx h_p2 (by decide) (by decide) | exact ⟨by fail, by fail⟩)) ?_
              refine go_retq PM64 (k := 1) (r := some (.inl (dt 47 (p2).toNat))) (w1 := (SH, dt)) rfl ?_
              exact ⟨rfl, ⟨_, rfl, (by first | exact bnd r32 (by decide) (by decide) | exact ⟨by fail, by fail⟩), by first | (exfalso; fail) | (unfold RUL; rw [← ex_]; (repeat (first | rw [if_pos (by omega)] | rw [if_neg (by omega)])); first | omega | (rw [← ev_ (by fail)]; fail) | (rw [← ew_ (by fail)]; fail))⟩⟩
          · refine go_swiq PM64 (v := 5) (p1 := 126) (lo := 0) (hi := 7) rfl c24 (by decide) rfl ?_
            refine go_toq PM64 (k := 5) (pc' := 149) (L' := [some (.inr (.inr (some 43))), some (.inl p1), some (.inl p2), some (.inl p3), some (.inl p4), some (.inl ((p1 * 3) + p2)), some (.inl 0)]) (st' := [.inl p2, .inr (.inr (some 47))]) (w' := (SH, dt)) rfl ?_
            have r33 : (-2147483648) ≤ dt 47 (p2).toNat ∧ dt 47 (p2).toNat ≤ 2147483647 := InvC_get hI 47 (p2).toNat rfl rfl
            refine go_smpq PM64 (L' := [some (.inr (.inr (some 43))), some (.inl p1), some (.inl p2), some (.inl p3), some (.inl p4), some (.inl ((p1 * 3) + p2)), some (.inl 0)]) (st' := [.inl (dt 47 (p2).toNat)]) (w' := (SH, dt)) rfl rfl (s_iald (n := 3) (f := dt 47) rfl (by first | exact bndx h_p2 (by decide) (by decide) | exact ⟨by fail, by fail⟩)) ?_
            refine go_retq PM64 (k := 0) (r := some (.inl (dt 47 (p2).toNat))) (w1 := (SH, dt)) rfl ?_
            exact ⟨rfl, ⟨_, rfl, (by first | exact bnd r33 (by decide) (by decide) | exact ⟨by fail, by fail⟩), by first | (exfalso; fail) | (unfold RUL; rw [← ex_]; (repeat (first | rw [if_pos (by omega)] | rw [if_neg (by omega)])); first | omega | (rw [← ev_ (by fail)]; fail) | (rw [← ew_ (by fail)]; fail))⟩⟩
          · refine go_swiq PM64 (v := 6) (p1 := 151) (lo := 0) (hi := 7) rfl c24 (by decide) rfl ?_
            refine go_toq PM64 (k := 5) (pc' := 179) (L' := [some (.inr (.inr (some 43))), some (.inl p1), some (.inl p2), some (.inl p3), some (.inl p4), some (.inl ((p1 * 3) + p2)), some (.inl 0)]) (st' := [.inl ((p1 * 3) + p2), .inr (.inr (some 52))]) (w' := (SH, dt)) rfl ?_
            have r34 : (-2147483648) ≤ dt 52 (((p1 * 3) + p2).toNat) ∧ dt 52 (((p1 * 3) + p2).toNat) ≤ 2147483647 := InvC_get hI 52 (((p1 * 3) + p2).toNat) rfl rfl
            refine go_smpq PM64 (L' := [some (.inr (.inr (some 43))), some (.inl p1), some (.inl p2), some (.inl p3), some (.inl p4), some (.inl ((p1 * 3) + p2)), some (.inl 0)]) (st' := [.inl (dt 52 (((p1 * 3) + p2).toNat))]) (w' := (SH, dt)) rfl rfl (s_iald (n := 12) (f := dt 52) rfl ⟨by omega, by omega⟩) ?_
            refine go_retq PM64 (k := 0) (r := some (.inl (dt 52 (((p1 * 3) + p2).toNat)))) (w1 := (SH, dt)) rfl ?_
            exact ⟨rfl, ⟨_, rfl, (by first | exact bnd r34 (by decide) (by decide) | exact ⟨by fail, by fail⟩), by first | (exfalso; fail) | (unfold RUL; rw [← ex_]; (repeat (first | rw [if_pos (by omega)] | rw [if_neg (by omega)])); first | omega | (rw [← ev_ (by fail)]; fail) | (rw [← ew_ (by fail)]; fail))⟩⟩
          · refine go_swiq PM64 (v := 7) (p1 := 181) (lo := 0) (hi := 7) rfl c24 (by decide) rfl ?_
            refine go_toq PM64 (k := 3) (pc' := 186) (L' := [some (.inr (.inr (some 43))), some (.inl p1), some (.inl p2), some (.inl p3), some (.inl p4), some (.inl ((p1 * 3) + p2)), some (.inl 0)]) (st' := [.inl p2, .inr (.inr (some 49))]) (w' := (SH, dt)) rfl ?_
            have r35 : (-2147483648) ≤ dt 49 (p2).toNat ∧ dt 49 (p2).toNat ≤ 2147483647 := InvC_get hI 49 (p2).toNat rfl rfl
            refine go_smpq PM64 (L' := [some (.inr (.inr (some 43))), some (.inl p1), some (.inl p2), some (.inl p3), some (.inl p4), some (.inl ((p1 * 3) + p2)), some (.inl 0)]) (st' := [.inl (dt 49 (p2).toNat)]) (w' := (SH, dt)) rfl rfl (s_iald (n := 3) (f := dt 49) rfl (by first | exact bndx h_p2 (by decide) (by decide) | exact ⟨by fail, by fail⟩)) ?_
            refine go_retq PM64 (k := 0) (r := some (.inl (dt 49 (p2).toNat))) (w1 := (SH, dt)) rfl ?_
            exact ⟨rfl, ⟨_, rfl, (by first | exact bnd r35 (by decide) (by decide) | exact ⟨by fail, by fail⟩), by first | (exfalso; fail) | (unfold RUL; rw [← ex_]; (repeat (first | rw [if_pos (by omega)] | rw [if_neg (by omega)])); first | omega | (rw [← ev_ (by fail)]; fail) | (rw [← ew_ (by fail)]; fail))⟩⟩
    · skip
      refine go_retq PM64 (k := 2) (r := some (.inl (-1))) (w1 := (SH, dt)) rfl ?_
      exact ⟨rfl, ⟨_, rfl, ⟨by decide, by decide⟩, by first | (exfalso; omega) | (unfold RUL; rw [← ex_]; (repeat (first | rw [if_pos (by fail)] | rw [if_neg (by fail)])); first | fail | (rw [← ev_ (by fail)]; fail) | (rw [← ew_ (by fail)]; fail))⟩⟩
  · skip
    refine go_retq PM64 (k := 2) (r := some (.inl (-1))) (w1 := (SH, dt)) rfl ?_
    exact ⟨rfl, ⟨_, rfl, ⟨by decide, by decide⟩, by first | (exfalso; omega) | (unfold RUL; rw [← ex_]; (repeat (first | rw [if_pos (by fail)] | rw [if_neg (by fail)])); first | fail | (rw [← ev_ (by fail)]; fail) | (rw [← ew_ (by fail)]; fail))⟩⟩
theorem sp_X4_ofPicture_f44 (L : Nat) (xs : Nat → Int32) (sio : Option Nat) (d : Nat) (dt : Nat → Nat → Int) (hI : InvC dt)  (p1 : Int) (h_p1 : 0 ≤ p1 ∧ p1 ≤ 1) (p2 : Int) (h_p2 : 0 ≤ p2 ∧ p2 ≤ 2) (p3 : Int) (h_p3 : 0 ≤ p3 ∧ p3 ≤ 8)  : GO (am_XX L xs sio) (d + 2) 65 0 [some (.inr (.inr (some 43))), some (.inl p1), some (.inl p2), some (.inl p3)] [] (SH, dt) (fun r w2 => w2 = (SH, dt) ∧ ((∃ v : Int, r = some (.inl v) ∧ ((-2147483648) ≤ v ∧ v ≤ 2147483647) ∧ (v = RUL (VC 44 dt) 1 p1 p2 (-1) p3)))) := by
  have ex_ : ((p1 * 3) + p2).toNat = 3 * p1.toNat + p2.toNat := by omega
  have v3_ : VC 44 dt 3 p2.toNat = dt 47 p2.toNat := VC_r (f := 3) (by decide) (show p2.toNat < 3 by omega)
  have v4_ : VC 44 dt 4 p2.toNat = dt 48 p2.toNat := VC_r (f := 4) (by decide) (show p2.toNat < 3 by omega)
  have v5_ : VC 44 dt 5 p2.toNat = dt 49 p2.toNat := VC_r (f := 5) (by decide) (show p2.toNat < 3 by omega)
  have v7_ : VC 44 dt 7 ((p1 * 3) + p2).toNat = dt 51 ((p1 * 3) + p2).toNat := VC_r (f := 7) (by decide) (show ((p1 * 3) + p2).toNat < 6 by omega)
  refine go_toq PM65 (k := 3) (pc' := 3) (L' := [some (.inr (.inr (some 43))), some (.inl p1), some (.inl p2), some (.inl p3)]) (st' := [.inl 1, .inl 0, .inl p1]) (w' := (SH, dt)) rfl ?_
  refine go_callq PM65 PM100 (Q' := _) rfl rfl rfl rfl (sp_X5_within L xs sio (d + 1) dt hI  p1 (by first | exact h_p1 | exact bnd h_p1 (by decide) (by decide) | exact ⟨by fail, by fail⟩) 0 ⟨by decide, by decide⟩ 1 ⟨by decide, by decide⟩ ) ?_
  rintro _ _ ⟨rfl, h1⟩
  refine ⟨rfl, ?_⟩
  rcases h1 with ⟨rfl, h1⟩ | ⟨rfl, h1⟩
  · skip
    refine go_toq PM65 (k := 2) (pc' := 10) (L' := [some (.inr (.inr (some 43))), some (.inl p1), some (.inl p2), some (.inl p3)]) (st' := [.inl p2]) (w' := (SH, dt)) rfl ?_
    refine go_callq PM65 PM104 (Q' := _) rfl rfl rfl rfl (sp_X5_isThing L xs sio (d + 0) dt hI  p2 (by first | exact h_p2 | exact bnd h_p2 (by decide) (by decide) | exact ⟨by fail, by fail⟩) ) ?_
    rintro _ _ ⟨rfl, h2⟩
    refine ⟨rfl, ?_⟩
    rcases h2 with ⟨rfl, h2⟩ | ⟨rfl, h2⟩
    · skip
      have r3 := wr_RR p3
      refine go_toq PM65 (k := 2) (pc' := 19) (L' := [some (.inr (.inr (some 43))), some (.inl p1), some (.inl p2), some (.inl p3)]) (st' := [.inl p3]) (w' := (SH, dt)) rfl ?_
      have e5 : wr p3 = p3 := wr_R ⟨by omega, by omega⟩
      by_cases c4 : wr p3 < 0 ∨ 7 < wr p3
      · refine go_swoq PM65 (p1 := 92) (lo := 0) (hi := 7) rfl rfl c4 ?_
        refine go_toq PM65 (k := 7) (pc' := 101) (L' := [some (.inr (.inr (some 43))), some (.inl p1), some (.inl p2), some (.inl p3)]) (st' := [.inl ((p1 * 3) + p2), .inr (.inr (some 51))]) (w' := (SH, dt)) rfl ?_
        have r6 : (-2147483648) ≤ dt 51 (((p1 * 3) + p2).toNat) ∧ dt 51 (((p1 * 3) + p2).toNat) ≤ 2147483647 := InvC_get hI 51 (((p1 * 3) + p2).toNat) rfl rfl
        refine go_smpq PM65 (L' := [some (.inr (.inr (some 43))), some (.inl p1), some (.inl p2), some (.inl p3)]) (st' := [.inl (dt 51 (((p1 * 3) + p2).toNat))]) (w' := (SH, dt)) rfl rfl (s_iald (n := 6) (f := dt 51) rfl ⟨by omega, by omega⟩) ?_
        refine go_retq PM65 (k := 0) (r := some (.inl (dt 51 (((p1 * 3) + p2).toNat)))) (w1 := (SH, dt)) rfl ?_
        exact ⟨rfl, ⟨_, rfl, (by first | exact bnd r6 (by decide) (by decide) | exact ⟨by fail, by fail⟩), by first | (exfalso; fail) | (unfold RUL; rw [← ex_]; (repeat (first | rw [if_pos (by omega)] | rw [if_neg (by omega)])); first | omega | (rw [← ev_ (by fail)]; fail) | (rw [← ew_ (by fail)]; fail))⟩⟩
      · have c7 : wr p3 = 0 ∨ wr p3 = 1 ∨ wr p3 = 2 ∨ wr p3 = 3 ∨ wr p3 = 4 ∨ wr p3 = 5 ∨ wr p3 = 6 ∨ wr p3 = 7 := by omega
        rcases c7 with c7 | c7 | c7 | c7 | c7 | c7 | c7 | c7
        · refine go_swiq PM65 (v := 0) (p1 := 64) (lo := 0) (hi := 7) rfl c7 (by decide) rfl ?_
          refine go_toq PM65 (k := 3) (pc' := 69) (L' := [some (.inr (.inr (some 43))), some (.inl p1), some (.inl p2), some (.inl p3)]) (st' := [.inl p2, .inr (.inr (some 47))]) (w' := (SH, dt)) rfl ?_
          have r8 : (-2147483648) ≤ dt 47 (p2).toNat ∧ dt 47 (p2).toNat ≤ 2147483647 := InvC_get hI 47 (p2).toNat rfl rfl
          refine go_smpq PM65 (L' := [some (.inr (.inr (some 43))), some (.inl p1), some (.inl p2), some (.inl p3)]) (st' := [.inl (dt 47 (p2).toNat)]) (w' := (SH, dt)) rfl rfl (s_iald (n := 3) (f := dt 47) rfl (by first | exact bndx h_p2 (by decide) (by decide) | exact ⟨by fail, by fail⟩)) ?_
          refine go_retq PM65 (k := 0) (r := some (.inl (dt 47 (p2).toNat))) (w1 := (SH, dt)) rfl ?_
          exact ⟨rfl, ⟨_, rfl, (by first | exact bnd r8 (by decide) (by decide) | exact ⟨by fail, by fail⟩), by first | (exfalso; fail) | (unfold RUL; rw [← ex_]; (repeat (first | rw [if_pos (by omega)] | rw [if_neg (by fail)])); first | omega | (rw [← ev_ (by fail)]; fail) | (rw [← ew_ (by fail)]; fail))⟩⟩
        · refine go_swiq PM65 (v := 1) (p1 := 92) (lo := 0) (hi := 7) rfl c7 (by decide) rfl ?_
          refine go_toq PM65 (k := 7) (pc' := 101) (L' := [some (.inr (.inr (some 43))), some (.inl p1), some (.inl p2), some (.inl p3)]) (st' := [.inl ((p1 * 3) + p2), .inr (.inr (some 51))]) (w' := (SH, dt)) rfl ?_
          have r9 : (-2147483648) ≤ dt 51 (((p1 * 3) + p2).toNat) ∧ dt 51 (((p1 * 3) + p2).toNat) ≤ 2147483647 := InvC_get hI 51 (((p1 * 3) + p2).toNat) rfl rfl
          refine go_smpq PM65 (L' := [some (.inr (.inr (some 43))), some (.inl p1), some (.inl p2), some (.inl p3)]) (st' := [.inl (dt 51 (((p1 * 3) + p2).toNat))]) (w' := (SH, dt)) rfl rfl (s_iald (n := 6) (f := dt 51) rfl ⟨by omega, by omega⟩) ?_
          refine go_retq PM65 (k := 0) (r := some (.inl (dt 51 (((p1 * 3) + p2).toNat)))) (w1 := (SH, dt)) rfl ?_
          exact ⟨rfl, ⟨_, rfl, (by first | exact bnd r9 (by decide) (by decide) | exact ⟨by fail, by fail⟩), by first | (exfalso; fail) | (unfold RUL; rw [← ex_]; (repeat (first | rw [if_pos (by omega)] | rw [if_neg (by omega)])); first | omega | (rw [← ev_ (by fail)]; fail) | (rw [← ew_ (by fail)]; fail))⟩⟩
        · refine go_swiq PM65 (v := 2) (p1 := 92) (lo := 0) (hi := 7) rfl c7 (by decide) rfl ?_
          refine go_toq PM65 (k := 7) (pc' := 101) (L' := [some (.inr (.inr (some 43))), some (.inl p1), some (.inl p2), some (.inl p3)]) (st' := [.inl ((p1 * 3) + p2), .inr (.inr (some 51))]) (w' := (SH, dt)) rfl ?_
          have r10 : (-2147483648) ≤ dt 51 (((p1 * 3) + p2).toNat) ∧ dt 51 (((p1 * 3) + p2).toNat) ≤ 2147483647 := InvC_get hI 51 (((p1 * 3) + p2).toNat) rfl rfl
          refine go_smpq PM65 (L' := [some (.inr (.inr (some 43))), some (.inl p1), some (.inl p2), some (.inl p3)]) (st' := [.inl (dt 51 (((p1 * 3) + p2).toNat))]) (w' := (SH, dt)) rfl rfl (s_iald (n := 6) (f := dt 51) rfl ⟨by omega, by omega⟩) ?_
          refine go_retq PM65 (k := 0) (r := some (.inl (dt 51 (((p1 * 3) + p2).toNat)))) (w1 := (SH, dt)) rfl ?_
          exact ⟨rfl, ⟨_, rfl, (by first | exact bnd r10 (by decide) (by decide) | exact ⟨by fail, by fail⟩), by first | (exfalso; fail) | (unfold RUL; rw [← ex_]; (repeat (first | rw [if_pos (by omega)] | rw [if_neg (by omega)])); first | omega | (rw [← ev_ (by fail)]; fail) | (rw [← ew_ (by fail)]; fail))⟩⟩
        · refine go_swiq PM65 (v := 3) (p1 := 92) (lo := 0) (hi := 7) rfl c7 (by decide) rfl ?_
          refine go_toq PM65 (k := 7) (pc' := 101) (L' := [some (.inr (.inr (some 43))), some (.inl p1), some (.inl p2), some (.inl p3)]) (st' := [.inl ((p1 * 3) + p2), .inr (.inr (some 51))]) (w' := (SH, dt)) rfl ?_
          have r11 : (-2147483648) ≤ dt 51 (((p1 * 3) + p2).toNat) ∧ dt 51 (((p1 * 3) + p2).toNat) ≤ 2147483647 := InvC_get hI 51 (((p1 * 3) + p2).toNat) rfl rfl
          refine go_smpq PM65 (L' := [some (.inr (.inr (some 43))), some (.inl p1), some (.inl p2), some (.inl p3)]) (st' := [.inl (dt 51 (((p1 * 3) + p2).toNat))]) (w' := (SH, dt)) rfl rfl (s_iald (n := 6) (f := dt 51) rfl ⟨by omega, by omega⟩) ?_
          refine go_retq PM65 (k := 0) (r := some (.inl (dt 51 (((p1 * 3) + p2).toNat)))) (w1 := (SH, dt)) rfl ?_
          exact ⟨rfl, ⟨_, rfl, (by first | exact bnd r11 (by decide) (by decide) | exact ⟨by fail, by fail⟩), by first | (exfalso; fail) | (unfold RUL; rw [← ex_]; (repeat (first | rw [if_pos (by omega)] | rw [if_neg (by omega)])); first | omega | (rw [← ev_ (by fail)]; fail) | (rw [← ew_ (by fail)]; fail))⟩⟩
        · refine go_swiq PM65 (v := 4) (p1 := 71) (lo := 0) (hi := 7) rfl c7 (by decide) rfl ?_
          refine go_toq PM65 (k := 3) (pc' := 76) (L' := [some (.inr (.inr (some 43))), some (.inl p1), some (.inl p2), some (.inl p3)]) (st' := [.inl p2, .inr (.inr (some 48))]) (w' := (SH, dt)) rfl ?_
          have r12 : (-2147483648) ≤ dt 48 (p2).toNat ∧ dt 48 (p2).toNat ≤ 2147483647 := InvC_get hI 48 (p2).toNat rfl rfl
          refine go_smpq PM65 (L' := [some (.inr (.inr (some 43))), some (.inl p1), some (.inl p2), some (.inl p3)]) (st' := [.inl (dt 48 (p2).toNat)]) (w' := (SH, dt)) rfl rfl (s_iald (n := 3) (f := dt 48) rfl (by first | exact bndx h_p2 (by decide) (by decide) | exact ⟨by fail, by fail⟩)) ?_
          refine go_retq PM65 (k := 0) (r := some (.inl (dt 48 (p2).toNat))) (w1 := (SH, dt)) rfl ?_
          exact ⟨rfl, ⟨_, rfl, (by first | exact bnd r12 (by decide) (by decide) | exact ⟨by fail, by fail⟩), by first | (exfalso; fail) | (unfold RUL; rw [← ex_]; (repeat (first | rw [if_pos (by omega)] | rw [if_neg (by omega)])); first | omega | (rw [← ev_ (by fail)]; fail) | (rw [← ew_ (by fail)]; fail))⟩⟩
        · refine go_swiq PM65 (v := 5) (p1 := 78) (lo := 0) (hi := 7) rfl c7 (by decide) rfl ?_
          refine go_toq PM65 (k := 3) (pc' := 83) (L' := [some (.inr (.inr (some 43))), some (.inl p1), some (.inl p2), some (.inl p3)]) (st' := [.inl p2, .inr (.inr (some 47))]) (w' := (SH, dt)) rfl ?_
          have r13 : (-2147483648) ≤ dt 47 (p2).toNat ∧ dt 47 (p2).toNat ≤ 2147483647 := InvC_get hI 47 (p2).toNat rfl rfl
          refine go_smpq PM65 (L' := [some (.inr (.inr (some 43))), some (.inl p1), some (.inl p2), some (.inl p3)]) (st' := [.inl (dt 47 (p2).toNat)]) (w' := (SH, dt)) rfl rfl (s_iald (n := 3) (f := dt 47) rfl (by first | exact bndx h_p2 (by decide) (by decide) | exact ⟨by fail, by fail⟩)) ?_
          refine go_retq PM65 (k := 0) (r := some (.inl (dt 47 (p2).toNat))) (w1 := (SH, dt)) rfl ?_
          exact ⟨rfl, ⟨_, rfl, (by first | exact bnd r13 (by decide) (by decide) | exact ⟨by fail, by fail⟩), by first | (exfalso; fail) | (unfold RUL; rw [← ex_]; (repeat (first | rw [if_pos (by omega)] | rw [if_neg (by fail)])); first | omega | (rw [← ev_ (by fail)]; fail) | (rw [← ew_ (by fail)]; fail))⟩⟩
        · refine go_swiq PM65 (v := 6) (p1 := 92) (lo := 0) (hi := 7) rfl c7 (by decide) rfl ?_
          refine go_toq PM65 (k := 7) (pc' := 101) (L' := [some (.inr (.inr (some 43))), some (.inl p1), some (.inl p2), some (.inl p3)]) (st' := [.inl ((p1 * 3) + p2), .inr (.inr (some 51))]) (w' := (SH, dt)) rfl ?_
          have r14 : (-2147483648) ≤ dt 51 (((p1 * 3) + p2).toNat) ∧ dt 51 (((p1 * 3) + p2).toNat) ≤ 2147483647 := InvC_get hI 51 (((p1 * 3) + p2).toNat) rfl rfl
          refine go_smpq PM65 (L' := [some (.inr (.inr (some 43))), some (.inl p1), some (.inl p2), some (.inl p3)]) (st' := [.inl (dt 51 (((p1 * 3) + p2).toNat))]) (w' := (SH, dt)) rfl rfl (s_iald (n := 6) (f := dt 51) rfl ⟨by omega, by omega⟩) ?_
          refine go_retq PM65 (k := 0) (r := some (.inl (dt 51 (((p1 * 3) + p2).toNat)))) (w1 := (SH, dt)) rfl ?_
          exact ⟨rfl, ⟨_, rfl, (by first | exact bnd r14 (by decide) (by decide) | exact ⟨by fail, by fail⟩), by first | (exfalso; fail) | (unfold RUL; rw [← ex_]; (repeat (first | rw [if_pos (by omega)] | rw [if_neg (by omega)])); first | omega | (rw [← ev_ (by fail)]; fail) | (rw [← ew_ (by fail)]; fail))⟩⟩
        · refine go_swiq PM65 (v := 7) (p1 := 85) (lo := 0) (hi := 7) rfl c7 (by decide) rfl ?_
          refine go_toq PM65 (k := 3) (pc' := 90) (L' := [some (.inr (.inr (some 43))), some (.inl p1), some (.inl p2), some (.inl p3)]) (st' := [.inl p2, .inr (.inr (some 49))]) (w' := (SH, dt)) rfl ?_
          have r15 : (-2147483648) ≤ dt 49 (p2).toNat ∧ dt 49 (p2).toNat ≤ 2147483647 := InvC_get hI 49 (p2).toNat rfl rfl
          refine go_smpq PM65 (L' := [some (.inr (.inr (some 43))), some (.inl p1), some (.inl p2), some (.inl p3)]) (st' := [.inl (dt 49 (p2).toNat)]) (w' := (SH, dt)) rfl rfl (s_iald (n := 3) (f := dt 49) rfl (by first | exact bndx h_p2 (by decide) (by decide) | exact ⟨by fail, by fail⟩)) ?_
          refine go_retq PM65 (k := 0) (r := some (.inl (dt 49 (p2).toNat))) (w1 := (SH, dt)) rfl ?_
          exact ⟨rfl, ⟨_, rfl, (by first | exact bnd r15 (by decide) (by decide) | exact ⟨by fail, by fail⟩), by first | (exfalso; fail) | (unfold RUL; rw [← ex_]; (repeat (first | rw [if_pos (by omega)] | rw [if_neg (by omega)])); first | omega | (rw [← ev_ (by fail)]; fail) | (rw [← ew_ (by fail)]; fail))⟩⟩
    · skip
      refine go_retq PM65 (k := 2) (r := some (.inl (-1))) (w1 := (SH, dt)) rfl ?_
      exact ⟨rfl, ⟨_, rfl, ⟨by decide, by decide⟩, by first | (exfalso; omega) | (unfold RUL; rw [← ex_]; (repeat (first | rw [if_pos (by fail)] | rw [if_neg (by fail)])); first | fail | (rw [← ev_ (by fail)]; fail) | (rw [← ew_ (by fail)]; fail))⟩⟩
  · skip
    refine go_retq PM65 (k := 2) (r := some (.inl (-1))) (w1 := (SH, dt)) rfl ?_
    exact ⟨rfl, ⟨_, rfl, ⟨by decide, by decide⟩, by first | (exfalso; omega) | (unfold RUL; rw [← ex_]; (repeat (first | rw [if_pos (by fail)] | rw [if_neg (by fail)])); first | fail | (rw [← ev_ (by fail)]; fail) | (rw [← ew_ (by fail)]; fail))⟩⟩
theorem sp_X5_ruleIn_f44 (L : Nat) (xs : Nat → Int32) (sio : Option Nat) (d : Nat) (dt : Nat → Nat → Int) (hI : InvC dt)  (p2 : Int) (h_p2 : 0 ≤ p2 ∧ p2 ≤ 11) (p3 : Int) (h_p3 : 0 ≤ p3 ∧ p3 ≤ 8) (h_p0 : p2 < dt 7 3) (h_p1 : QOC (dt 8) (dt 7 3)) : GO (am_XX L xs sio) (d + 3) 116 0 [some (.inr (.inr (some 0))), some (.inr (.inr (some 43))), some (.inl p2), some (.inl p3), none, none] [] (SH, dt) (fun r w2 => w2 = (SH, dt) ∧ ((∃ v : Int, r = some (.inl v) ∧ ((-2147483648) ≤ v ∧ v ≤ 2147483647) ∧ (v = RUL (VC 44 dt) (dt 8 (((p2 * 5) + 1)).toNat) (dt 8 (((p2 * 5) + 2)).toNat) (dt 8 (((p2 * 5) + 3)).toNat) (dt 8 (((p2 * 5) + 4)).toNat) p3)))) := by
  have r1 : 0 ≤ dt 7 3 ∧ dt 7 3 ≤ 12 := InvC_get hI 7 3 rfl rfl
  have hQ_ := QOC_at h_p1 (q := p2) (by omega) (by omega)
  unfold qOC at hQ_
  refine go_toq PM116 (k := 5) (pc' := 9) (L' := [some (.inr (.inr (some 0))), some (.inr (.inr (some 43))), some (.inl p2), some (.inl p3), none, none]) (st' := [.inl 2, .inl p2, .inr (.inr (some 7))]) (w' := (SH, dt)) rfl ?_
  refine go_callq PM116 PM39 (Q' := _) rfl rfl rfl rfl (sp_X2_at_7_2 L xs sio (d + 1) dt hI  p2 (by first | exact h_p2 | exact bnd h_p2 (by decide) (by decide) | exact ⟨by fail, by fail⟩) (by first | exact True.intro | with_reducible assumption | rfl | fail | trivial | assumption) (by first | exact True.intro | with_reducible assumption | rfl | fail | trivial | assumption)) ?_
  rintro _ _ ⟨rfl, h2⟩
  refine ⟨rfl, ?_⟩
  rcases h2 with ⟨rfl, h2⟩
  refine go_toq PM116 (k := 6) (pc' := 23) (L' := [some (.inr (.inr (some 0))), some (.inr (.inr (some 43))), some (.inl p2), some (.inl p3), some (.inl (dt 8 (((p2 * 5) + 2)).toNat)), none]) (st' := [.inl 3, .inl p2, .inr (.inr (some 7))]) (w' := (SH, dt)) rfl ?_
  refine go_callq PM116 PM39 (Q' := _) rfl rfl rfl rfl (sp_X2_at_7_3 L xs sio (d + 1) dt hI  p2 (by first | exact h_p2 | exact bnd h_p2 (by decide) (by decide) | exact ⟨by fail, by fail⟩) (by first | exact True.intro | with_reducible assumption | rfl | fail | trivial | assumption) (by first | exact True.intro | with_reducible assumption | rfl | fail | trivial | assumption)) ?_
  rintro _ _ ⟨rfl, h3⟩
  refine ⟨rfl, ?_⟩
  rcases h3 with ⟨rfl, h3⟩
  refine go_toq PM116 (k := 6) (pc' := 37) (L' := [some (.inr (.inr (some 0))), some (.inr (.inr (some 43))), some (.inl p2), some (.inl p3), some (.inl (dt 8 (((p2 * 5) + 2)).toNat)), some (.inl (dt 8 (((p2 * 5) + 3)).toNat))]) (st' := [.inl 1, .inl p2, .inr (.inr (some 7))]) (w' := (SH, dt)) rfl ?_
  refine go_callq PM116 PM39 (Q' := _) rfl rfl rfl rfl (sp_X2_at_7_1 L xs sio (d + 1) dt hI  p2 (by first | exact h_p2 | exact bnd h_p2 (by decide) (by decide) | exact ⟨by fail, by fail⟩) (by first | exact True.intro | with_reducible assumption | rfl | fail | trivial | assumption) (by first | exact True.intro | with_reducible assumption | rfl | fail | trivial | assumption)) ?_
  rintro _ _ ⟨rfl, h4⟩
  refine ⟨rfl, ?_⟩
  rcases h4 with ⟨rfl, h4⟩
  refine go_ifq PM116 (k := 1) (p1 := 54) (p2 := 44) (L' := [some (.inr (.inr (some 0))), some (.inr (.inr (some 43))), some (.inl p2), some (.inl p3), some (.inl (dt 8 (((p2 * 5) + 2)).toNat)), some (.inl (dt 8 (((p2 * 5) + 3)).toNat))]) (st' := []) (w' := (SH, dt)) rfl (c_ne (a := dt 8 (((p2 * 5) + 1)).toNat) (b := 1) ⟨by omega, by omega⟩ ⟨by decide, by decide⟩) (fun c5 => ?_) (fun c5 => ?_)
  · skip
    replace c5 := hid c5
    refine go_toq PM116 (k := 8) (pc' := 68) (L' := [some (.inr (.inr (some 0))), some (.inr (.inr (some 43))), some (.inl p2), some (.inl p3), some (.inl (dt 8 (((p2 * 5) + 2)).toNat)), some (.inl (dt 8 (((p2 * 5) + 3)).toNat))]) (st' := [.inl 4, .inl p2, .inr (.inr (some 7)), .inl (dt 8 (((p2 * 5) + 3)).toNat), .inl (dt 8 (((p2 * 5) + 2)).toNat), .inr (.inr (some 43))]) (w' := (SH, dt)) rfl ?_
    refine go_callq PM116 PM39 (Q' := _) rfl rfl rfl rfl (sp_X2_at_7_4 L xs sio (d + 1) dt hI  p2 (by first | exact h_p2 | exact bnd h_p2 (by decide) (by decide) | exact ⟨by fail, by fail⟩) (by first | exact True.intro | with_reducible assumption | exact unhid (by with_reducible assumption) | rfl | fail | trivial | assumption) (by first | exact True.intro | with_reducible assumption | exact unhid (by with_reducible assumption) | rfl | fail | trivial | assumption)) ?_
    rintro _ _ ⟨rfl, h6⟩
    refine ⟨rfl, ?_⟩
    rcases h6 with ⟨rfl, h6⟩
    refine go_toq PM116 (k := 1) (pc' := 72) (L' := [some (.inr (.inr (some 0))), some (.inr (.inr (some 43))), some (.inl p2), some (.inl p3), some (.inl (dt 8 (((p2 * 5) + 2)).toNat)), some (.inl (dt 8 (((p2 * 5) + 3)).toNat))]) (st' := [.inl p3, .inl (dt 8 (((p2 * 5) + 4)).toNat), .inl (dt 8 (((p2 * 5) + 3)).toNat), .inl (dt 8 (((p2 * 5) + 2)).toNat), .inr (.inr (some 43))]) (w' := (SH, dt)) rfl ?_
    refine go_callq PM116 PM64 (Q' := _) rfl rfl rfl rfl (sp_X4_ofLook_f44 L xs sio (d + 0) dt hI  (dt 8 (((p2 * 5) + 2)).toNat) ⟨by omega, by omega⟩ (dt 8 (((p2 * 5) + 3)).toNat) ⟨by omega, by omega⟩ (dt 8 (((p2 * 5) + 4)).toNat) ⟨by omega, by omega⟩ p3 (by first | exact h_p3 | exact bnd h_p3 (by decide) (by decide) | exact ⟨by fail, by fail⟩) ) ?_
    rintro _ _ ⟨rfl, h7⟩
    refine ⟨rfl, ?_⟩
    rcases h7 with ⟨v_h7, rfl, h7r, h7⟩
    refine go_retq PM116 (k := 0) (r := some (.inl v_h7)) (w1 := (SH, dt)) rfl ?_
    exact ⟨rfl, ⟨_, rfl, (by first | exact bnd h7r (by decide) (by decide) | exact ⟨by fail, by fail⟩), by first | (rw [show dt 8 (((p2 * 5) + 1)).toNat = 1 by first | with_reducible assumption | exact unhid (by with_reducible assumption) | fail, show dt 8 (((p2 * 5) + 4)).toNat = -1 by first | with_reducible assumption | exact unhid (by with_reducible assumption) | fail]; fail) | (rw [show dt 8 (((p2 * 5) + 1)).toNat = 0 by first | with_reducible assumption | exact unhid (by with_reducible assumption) | (have z_ := unhid c5; omega)]; omega)⟩⟩
  · skip
    refine go_toq PM116 (k := 4) (pc' := 50) (L' := [some (.inr (.inr (some 0))), some (.inr (.inr (some 43))), some (.inl p2), some (.inl p3), some (.inl (dt 8 (((p2 * 5) + 2)).toNat)), some (.inl (dt 8 (((p2 * 5) + 3)).toNat))]) (st' := [.inl p3, .inl (dt 8 (((p2 * 5) + 3)).toNat), .inl (dt 8 (((p2 * 5) + 2)).toNat), .inr (.inr (some 43))]) (w' := (SH, dt)) rfl ?_
    refine go_callq PM116 PM65 (Q' := _) rfl rfl rfl rfl (sp_X4_ofPicture_f44 L xs sio (d + 0) dt hI  (dt 8 (((p2 * 5) + 2)).toNat) ⟨by omega, by omega⟩ (dt 8 (((p2 * 5) + 3)).toNat) ⟨by omega, by omega⟩ p3 (by first | exact h_p3 | exact bnd h_p3 (by decide) (by decide) | exact ⟨by fail, by fail⟩) ) ?_
    rintro _ _ ⟨rfl, h8⟩
    refine ⟨rfl, ?_⟩
    rcases h8 with ⟨v_h8, rfl, h8r, h8⟩
    refine go_retq PM116 (k := 0) (r := some (.inl v_h8)) (w1 := (SH, dt)) rfl ?_
    exact ⟨rfl, ⟨_, rfl, (by first | exact bnd h8r (by decide) (by decide) | exact ⟨by fail, by fail⟩), by first | (rw [show dt 8 (((p2 * 5) + 1)).toNat = 1 by first | with_reducible assumption | omega, show dt 8 (((p2 * 5) + 4)).toNat = -1 by first | with_reducible assumption | omega]; omega) | (rw [show dt 8 (((p2 * 5) + 1)).toNat = 0 by first | with_reducible assumption | fail]; fail)⟩⟩
theorem sp_X4_allMoves_f44 (L : Nat) (xs : Nat → Int32) (sio : Option Nat) (d : Nat) (dt : Nat → Nat → Int) (hI : InvC dt)   (h_p0 : WOK 24 (VC 44 dt)) : GO (am_XX L xs sio) (d) 63 0 [some (.inr (.inr (some 43)))] [] (SH, dt) (fun r w2 => w2 = (SH, dt) ∧ ((∃ v : Int, r = some (.inl v) ∧ (0 ≤ v ∧ v ≤ 72) ∧ (v = VC 44 dt 6 0 + VC 44 dt 6 1 + VC 44 dt 6 2)))) := by
  have hm0 : 0 ≤ dt 50 0 ∧ dt 50 0 ≤ 24 := by have z := h_p0.2 0 (by decide); rw [VC_r (f := 6) (by decide) (show 0 < 3 by decide)] at z; exact ⟨z.1, z.2.1⟩
  have hm1 : 0 ≤ dt 50 1 ∧ dt 50 1 ≤ 24 := by have z := h_p0.2 1 (by decide); rw [VC_r (f := 6) (by decide) (show 1 < 3 by decide)] at z; exact ⟨z.1, z.2.1⟩
  have hm2 : 0 ≤ dt 50 2 ∧ dt 50 2 ≤ 24 := by have z := h_p0.2 2 (by decide); rw [VC_r (f := 6) (by decide) (show 2 < 3 by decide)] at z; exact ⟨z.1, z.2.1⟩
  have v60_ : VC 44 dt 6 0 = dt 50 0 := VC_r (f := 6) (by decide) (show 0 < 3 by decide)
  have v61_ : VC 44 dt 6 1 = dt 50 1 := VC_r (f := 6) (by decide) (show 1 < 3 by decide)
  have v62_ : VC 44 dt 6 2 = dt 50 2 := VC_r (f := 6) (by decide) (show 2 < 3 by decide)
  refine go_toq PM63 (k := 3) (pc' := 5) (L' := [some (.inr (.inr (some 43)))]) (st' := [.inl 0, .inr (.inr (some 50))]) (w' := (SH, dt)) rfl ?_
  refine go_smpq PM63 (L' := [some (.inr (.inr (some 43)))]) (st' := [.inl (dt 50 0)]) (w' := (SH, dt)) rfl rfl (s_iald (n := 3) (f := dt 50) rfl ⟨by decide, by decide⟩) ?_
  refine go_toq PM63 (k := 3) (pc' := 11) (L' := [some (.inr (.inr (some 43)))]) (st' := [.inl 1, .inr (.inr (some 50)), .inl (dt 50 0)]) (w' := (SH, dt)) rfl ?_
  refine go_smpq PM63 (L' := [some (.inr (.inr (some 43)))]) (st' := [.inl (dt 50 1), .inl (dt 50 0)]) (w' := (SH, dt)) rfl rfl (s_iald (n := 3) (f := dt 50) rfl ⟨by decide, by decide⟩) ?_
  refine go_toq PM63 (k := 4) (pc' := 18) (L' := [some (.inr (.inr (some 43)))]) (st' := [.inl 2, .inr (.inr (some 50)), .inl ((dt 50 0) + (dt 50 1))]) (w' := (SH, dt)) rfl ?_
  refine go_smpq PM63 (L' := [some (.inr (.inr (some 43)))]) (st' := [.inl (dt 50 2), .inl ((dt 50 0) + (dt 50 1))]) (w' := (SH, dt)) rfl rfl (s_iald (n := 3) (f := dt 50) rfl ⟨by decide, by decide⟩) ?_
  refine go_retq PM63 (k := 1) (r := some (.inl (((dt 50 0) + (dt 50 1)) + (dt 50 2)))) (w1 := (SH, dt)) rfl ?_
  exact ⟨rfl, ⟨_, rfl, ⟨by omega, by omega⟩, by first | exact True.intro | with_reducible assumption | rfl | fail | trivial⟩⟩
theorem sp_X5_settle_f (L : Nat) (xs : Nat → Int32) (sio : Option Nat) (d : Nat) (dt : Nat → Nat → Int) (hI : InvC dt)  (p1 : Int) (h_p1 : 0 ≤ p1 ∧ p1 ≤ 11) (h_p0 : p1 < dt 7 3) (h_p1 : QOC (dt 8) (dt 7 3)) (h_p2 : WOK 24 (VC 44 dt)) : GO (am_XX L xs sio) (d + 4) 114 0 [some (.inr (.inr (some 0))), some (.inl p1), none] [] (SH, dt) (fun r w2 => ∃ dt2 : Nat → Nat → Int, w2 = (SH, dt2) ∧ InvC dt2 ∧ Fr [9] dt dt2 ∧ ((r = none ∧ (∀ r : Nat, r ≤ 10 → dt2 9 (11 * p1.toNat + r) = SDW (VC 44 dt) (dt 8 (5 * p1.toNat + 1)) (dt 8 (5 * p1.toNat + 2)) (dt 8 (5 * p1.toNat + 3)) (dt 8 (5 * p1.toNat + 4)) (r : Int)) ∧ (∀ j : Nat, (j < 11 * p1.toNat ∨ 11 * p1.toNat + 11 ≤ j) → dt2 9 j = dt 9 j)))) := by
  have hF : Fr [9] dt dt := Fr_refl
  have r1 : 0 ≤ dt 7 3 ∧ dt 7 3 ≤ 12 := InvC_get hI 7 3 rfl rfl
  refine go_toq PM114 (k := 4) (pc' := 8) (L' := [some (.inr (.inr (some 0))), some (.inl p1), none]) (st' := [.inl p1, .inr (.inr (some 7))]) (w' := (SH, dt)) rfl ?_
  refine go_callq PM114 PM37 (Q' := _) rfl rfl rfl rfl (sp_X2_has_7 L xs sio (d + 3) dt hI  p1 (by first | exact h_p1 | exact bnd h_p1 (by decide) (by decide) | exact ⟨by omega, by omega⟩) ) ?_
  rintro _ _ ⟨rfl, h2⟩
  refine ⟨rfl, ?_⟩
  rcases h2 with ⟨rfl, h2⟩ | ⟨rfl, h2⟩
  · skip
    refine go_toq PM114 (k := 3) (pc' := 17) (L' := [some (.inr (.inr (some 0))), some (.inl p1), some (.inl 0)]) (st' := []) (w' := (SH, dt)) rfl ?_
    have loop14 : ∀ (k_ : Nat) (l17_2 : Int) (dt8 : Nat → Nat → Int) (hI9 : InvC dt8) (hF10 : Fr [9] dt dt8) (i11 : 0 ≤ l17_2 ∧ l17_2 ≤ 9) (i12 : STL (dt8 9) (dt 8) (VC 44 dt) p1 l17_2) (i13 : ∀ j : Nat, (j < 11 * p1.toNat ∨ 11 * p1.toNat + 11 ≤ j) → dt8 9 j = dt 9 j), (10 - l17_2).toNat < k_ → GO (am_XX L xs sio) (d + 4) 114 17 [some (.inr (.inr (some 0))), some (.inl p1), some (.inl l17_2)] [] (SH, dt8) (fun r w2 => ∃ dt2 : Nat → Nat → Int, w2 = (SH, dt2) ∧ InvC dt2 ∧ Fr [9] dt dt2 ∧ ((r = none ∧ (∀ r : Nat, r ≤ 10 → dt2 9 (11 * p1.toNat + r) = SDW (VC 44 dt) (dt 8 (5 * p1.toNat + 1)) (dt 8 (5 * p1.toNat + 2)) (dt 8 (5 * p1.toNat + 3)) (dt 8 (5 * p1.toNat + 4)) (r : Int)) ∧ (∀ j : Nat, (j < 11 * p1.toNat ∨ 11 * p1.toNat + 11 ≤ j) → dt2 9 j = dt 9 j)))) := by
      intro k_
      induction k_ with
      | zero => intro l17_2 dt8 hI9 hF10 i11 i12 i13 hm; exact absurd hm (Nat.not_lt_zero _)
      | succ k_ ih_loop14 =>
        intro l17_2 dt8 hI9 hF10 i11 i12 i13 hm
        have qS := i12
        have qK := i13
        refine go_ifq PM114 (k := 2) (p1 := 53) (p2 := 23) (L' := [some (.inr (.inr (some 0))), some (.inl p1), some (.inl l17_2)]) (st' := []) (w' := (SH, dt8)) rfl (c_gt (a := l17_2) (b := 8) (by first | exact bnd i11 (by decide) (by decide) | exact ⟨by fail, by fail⟩) ⟨by decide, by decide⟩) (fun c15 => ?_) (fun c15 => ?_)
        · skip
          refine go_toq PM114 (k := 4) (pc' := 60) (L' := [some (.inr (.inr (some 0))), some (.inl p1), some (.inl l17_2)]) (st' := [.inl 8, .inl p1, .inr (.inr (some 1))]) (w' := (SH, dt8)) rfl ?_
          refine go_callq PM114 PM1 (Q' := _) rfl rfl rfl rfl (sp_X0_saidOf_f L xs sio (d + 2) dt8 hI9  p1 (by first | exact h_p1 | exact bnd h_p1 (by decide) (by decide) | exact ⟨by omega, by omega⟩) 8 ⟨by decide, by decide⟩ (by first | exact True.intro | with_reducible assumption | rfl | fail | trivial | assumption | (rw [show dt8 7 3 = dt 7 3 from hF10 7 (by decide) 3]; omega) | (rw [show dt8 8 = dt 8 from funext (hF10 8 (by decide)), show dt8 7 3 = dt 7 3 from hF10 7 (by decide) 3]; exact h_p1) | (rw [show VC 44 dt8 = VC 44 dt from VC_frS hF10 (by decide)]; exact h_p2))) ?_
          rintro _ _ ⟨rfl, h16⟩
          refine ⟨rfl, ?_⟩
          rcases h16 with ⟨rfl, h16⟩
          refine go_toq PM114 (k := 4) (pc' := 69) (L' := [some (.inr (.inr (some 0))), some (.inl p1), some (.inl l17_2)]) (st' := [.inl 0, .inl p1, .inr (.inr (some 1)), .inl (dt8 9 (((p1 * 11) + 8)).toNat)]) (w' := (SH, dt8)) rfl ?_
          refine go_callq PM114 PM1 (Q' := _) rfl rfl rfl rfl (sp_X0_saidOf_f L xs sio (d + 2) dt8 hI9  p1 (by first | exact h_p1 | exact bnd h_p1 (by decide) (by decide) | exact ⟨by omega, by omega⟩) 0 ⟨by decide, by decide⟩ (by first | exact True.intro | with_reducible assumption | rfl | fail | trivial | assumption | (rw [show dt8 7 3 = dt 7 3 from hF10 7 (by decide) 3]; omega) | (rw [show dt8 8 = dt 8 from funext (hF10 8 (by decide)), show dt8 7 3 = dt 7 3 from hF10 7 (by decide) 3]; exact h_p1) | (rw [show VC 44 dt8 = VC 44 dt from VC_frS hF10 (by decide)]; exact h_p2))) ?_
          rintro _ _ ⟨rfl, h17⟩
          refine ⟨rfl, ?_⟩
          rcases h17 with ⟨rfl, h17⟩
          refine go_ifq PM114 (k := 0) (p1 := 79) (p2 := 75) (L' := [some (.inr (.inr (some 0))), some (.inl p1), some (.inl l17_2)]) (st' := []) (w' := (SH, dt8)) rfl (c_eq (a := dt8 9 (((p1 * 11) + 8)).toNat) (b := dt8 9 (((p1 * 11) + 0)).toNat) ⟨by omega, by omega⟩ ⟨by omega, by omega⟩) (fun c18 => ?_) (fun c18 => ?_)
          · skip
            refine go_toq PM114 (k := 13) (pc' := 104) (L' := [some (.inr (.inr (some 0))), some (.inl p1), some (.inl 0)]) (st' := [.inl 0, .inl ((p1 * 11) + 9), .inr (.inr (some 9))]) (w' := (SH, dt8)) rfl ?_
            have hI19 : InvC (u2 dt8 9 (((p1 * 11) + 9).toNat) 0) := InvC_u2 hI9 (lo := -2147483648) (hi := 2147483647) rfl rfl rfl (by decide) (by decide)
            have hF20 : Fr [9] dt (u2 dt8 9 (((p1 * 11) + 9).toNat) 0) := Fr_u2 hF10 (by decide)
            have S21 : STL ((u2 dt8 9 (((p1 * 11) + 9).toNat) 0) 9) (dt 8) (VC 44 dt) p1 10 := STL_9 (B1 := dt8 9) (by have z_ := qS; rw [show l17_2 = 9 by first | with_reducible assumption | omega] at z_; exact z_) (by omega) rfl u2_eq ⟨fun e_ => by rw [show 11 * p1.toNat + 8 = (((p1 * 11) + 8)).toNat by first | with_reducible assumption | omega, show 11 * p1.toNat + 0 = (((p1 * 11) + 0)).toNat by first | with_reducible assumption | omega] at e_; try fail, fun e_ => by rw [show 11 * p1.toNat + 8 = (((p1 * 11) + 8)).toNat by first | with_reducible assumption | omega, show 11 * p1.toNat + 0 = (((p1 * 11) + 0)).toNat by first | with_reducible assumption | omega] at e_; try omega⟩ (fun j hj => u2_ne (fun z_ => hj z_.2))
            have K22 : ∀ j : Nat, (j < 11 * p1.toNat ∨ 11 * p1.toNat + 11 ≤ j) → (u2 dt8 9 (((p1 * 11) + 9).toNat) 0) 9 j = dt 9 j := fun j hj => (u2_ne (by omega)).trans (qK j hj)
            refine go_smpq PM114 (L' := [some (.inr (.inr (some 0))), some (.inl p1), some (.inl 0)]) (st' := []) (w' := (SH, (u2 dt8 9 (((p1 * 11) + 9).toNat) 0))) rfl rfl (s_iast (n := 132) rfl ⟨by omega, by omega⟩ ⟨by decide, by decide⟩) ?_
            refine go_toq PM114 (k := 10) (pc' := 123) (L' := [some (.inr (.inr (some 0))), some (.inl p1), some (.inl 0)]) (st' := [.inr (.inr (some 43)), .inl ((p1 * 11) + 10), .inr (.inr (some 9))]) (w' := (SH, (u2 dt8 9 (((p1 * 11) + 9).toNat) 0))) rfl ?_
            refine go_callq PM114 PM63 (Q' := _) rfl rfl rfl rfl (sp_X4_allMoves_f44 L xs sio (d + 3) (u2 dt8 9 (((p1 * 11) + 9).toNat) 0) hI19   (by first | exact True.intro | with_reducible assumption | rfl | fail | trivial | assumption | (rw [show (u2 dt8 9 (((p1 * 11) + 9).toNat) 0) 7 3 = dt 7 3 from hF20 7 (by decide) 3]; fail) | (rw [show (u2 dt8 9 (((p1 * 11) + 9).toNat) 0) 8 = dt 8 from funext (hF20 8 (by decide)), show (u2 dt8 9 (((p1 * 11) + 9).toNat) 0) 7 3 = dt 7 3 from hF20 7 (by decide) 3]; exact h_p1) | (rw [show VC 44 (u2 dt8 9 (((p1 * 11) + 9).toNat) 0) = VC 44 dt from VC_frS hF20 (by decide)]; exact h_p2))) ?_
            rintro _ _ ⟨rfl, h23⟩
            refine ⟨rfl, ?_⟩
            rcases h23 with ⟨v_h23, rfl, h23r, h23⟩
            have hm24 := h23
            rw [show VC 44 (u2 dt8 9 (((p1 * 11) + 9).toNat) 0) = VC 44 dt from VC_frS hF20 (by decide)] at hm24
            have hI25 : InvC (u2 (u2 dt8 9 (((p1 * 11) + 9).toNat) 0) 9 (((p1 * 11) + 10).toNat) v_h23) := InvC_u2 hI19 (lo := -2147483648) (hi := 2147483647) rfl rfl rfl (by first | exact bnd1 h23r (by decide) | fail) (by first | exact bnd2 h23r (by decide) | fail)
            have hF26 : Fr [9] dt (u2 (u2 dt8 9 (((p1 * 11) + 9).toNat) 0) 9 (((p1 * 11) + 10).toNat) v_h23) := Fr_u2 hF20 (by decide)
            have S27 : STL ((u2 (u2 dt8 9 (((p1 * 11) + 9).toNat) 0) 9 (((p1 * 11) + 10).toNat) v_h23) 9) (dt 8) (VC 44 dt) p1 11 := STL_10 (B1 := (u2 dt8 9 (((p1 * 11) + 9).toNat) 0) 9) S21 (by omega) rfl u2_eq hm24 (fun j hj => u2_ne (fun z_ => hj z_.2))
            have K28 : ∀ j : Nat, (j < 11 * p1.toNat ∨ 11 * p1.toNat + 11 ≤ j) → (u2 (u2 dt8 9 (((p1 * 11) + 9).toNat) 0) 9 (((p1 * 11) + 10).toNat) v_h23) 9 j = dt 9 j := fun j hj => (u2_ne (by omega)).trans (K22 j hj)
            refine go_smpq PM114 (L' := [some (.inr (.inr (some 0))), some (.inl p1), some (.inl 0)]) (st' := []) (w' := (SH, (u2 (u2 dt8 9 (((p1 * 11) + 9).toNat) 0) 9 (((p1 * 11) + 10).toNat) v_h23))) rfl rfl (s_iast (n := 132) rfl ⟨by omega, by omega⟩ ⟨by omega, by omega⟩) ?_
            refine go_retq PM114 (k := 0) (r := none) (w1 := (SH, (u2 (u2 dt8 9 (((p1 * 11) + 9).toNat) 0) 9 (((p1 * 11) + 10).toNat) v_h23))) rfl ?_
            exact ⟨(u2 (u2 dt8 9 (((p1 * 11) + 9).toNat) 0) 9 (((p1 * 11) + 10).toNat) v_h23), rfl, hI25, hF26, ⟨rfl, ⟨by exact STL_A S27 (by omega), by exact K28⟩⟩⟩
          · skip
            replace c18 := hid c18
            refine go_toq PM114 (k := 15) (pc' := 104) (L' := [some (.inr (.inr (some 0))), some (.inl p1), some (.inl 1)]) (st' := [.inl 1, .inl ((p1 * 11) + 9), .inr (.inr (some 9))]) (w' := (SH, dt8)) rfl ?_
            have hI29 : InvC (u2 dt8 9 (((p1 * 11) + 9).toNat) 1) := InvC_u2 hI9 (lo := -2147483648) (hi := 2147483647) rfl rfl rfl (by decide) (by decide)
            have hF30 : Fr [9] dt (u2 dt8 9 (((p1 * 11) + 9).toNat) 1) := Fr_u2 hF10 (by decide)
            have S31 : STL ((u2 dt8 9 (((p1 * 11) + 9).toNat) 1) 9) (dt 8) (VC 44 dt) p1 10 := STL_9 (B1 := dt8 9) (by have z_ := qS; rw [show l17_2 = 9 by first | with_reducible assumption | exact unhid (by with_reducible assumption) | omega] at z_; exact z_) (by omega) rfl u2_eq ⟨fun e_ => by rw [show 11 * p1.toNat + 8 = (((p1 * 11) + 8)).toNat by first | with_reducible assumption | exact unhid (by with_reducible assumption) | omega, show 11 * p1.toNat + 0 = (((p1 * 11) + 0)).toNat by first | with_reducible assumption | exact unhid (by with_reducible assumption) | omega] at e_; try (have z_ := unhid c18; omega), fun e_ => by rw [show 11 * p1.toNat + 8 = (((p1 * 11) + 8)).toNat by first | with_reducible assumption | exact unhid (by with_reducible assumption) | omega, show 11 * p1.toNat + 0 = (((p1 * 11) + 0)).toNat by first | with_reducible assumption | exact unhid (by with_reducible assumption) | omega] at e_; try fail⟩ (fun j hj => u2_ne (fun z_ => hj z_.2))
            have K32 : ∀ j : Nat, (j < 11 * p1.toNat ∨ 11 * p1.toNat + 11 ≤ j) → (u2 dt8 9 (((p1 * 11) + 9).toNat) 1) 9 j = dt 9 j := fun j hj => (u2_ne (by omega)).trans (qK j hj)
            refine go_smpq PM114 (L' := [some (.inr (.inr (some 0))), some (.inl p1), some (.inl 1)]) (st' := []) (w' := (SH, (u2 dt8 9 (((p1 * 11) + 9).toNat) 1))) rfl rfl (s_iast (n := 132) rfl ⟨by omega, by omega⟩ ⟨by decide, by decide⟩) ?_
            refine go_toq PM114 (k := 10) (pc' := 123) (L' := [some (.inr (.inr (some 0))), some (.inl p1), some (.inl 1)]) (st' := [.inr (.inr (some 43)), .inl ((p1 * 11) + 10), .inr (.inr (some 9))]) (w' := (SH, (u2 dt8 9 (((p1 * 11) + 9).toNat) 1))) rfl ?_
            refine go_callq PM114 PM63 (Q' := _) rfl rfl rfl rfl (sp_X4_allMoves_f44 L xs sio (d + 3) (u2 dt8 9 (((p1 * 11) + 9).toNat) 1) hI29   (by first | exact True.intro | with_reducible assumption | exact unhid (by with_reducible assumption) | rfl | fail | trivial | assumption | (rw [show (u2 dt8 9 (((p1 * 11) + 9).toNat) 1) 7 3 = dt 7 3 from hF30 7 (by decide) 3]; fail) | (rw [show (u2 dt8 9 (((p1 * 11) + 9).toNat) 1) 8 = dt 8 from funext (hF30 8 (by decide)), show (u2 dt8 9 (((p1 * 11) + 9).toNat) 1) 7 3 = dt 7 3 from hF30 7 (by decide) 3]; exact h_p1) | (rw [show VC 44 (u2 dt8 9 (((p1 * 11) + 9).toNat) 1) = VC 44 dt from VC_frS hF30 (by decide)]; exact h_p2))) ?_
            rintro _ _ ⟨rfl, h33⟩
            refine ⟨rfl, ?_⟩
            rcases h33 with ⟨v_h33, rfl, h33r, h33⟩
            have hm34 := h33
            rw [show VC 44 (u2 dt8 9 (((p1 * 11) + 9).toNat) 1) = VC 44 dt from VC_frS hF30 (by decide)] at hm34
            have hI35 : InvC (u2 (u2 dt8 9 (((p1 * 11) + 9).toNat) 1) 9 (((p1 * 11) + 10).toNat) v_h33) := InvC_u2 hI29 (lo := -2147483648) (hi := 2147483647) rfl rfl rfl (by first | exact bnd1 h33r (by decide) | fail) (by first | exact bnd2 h33r (by decide) | fail)
            have hF36 : Fr [9] dt (u2 (u2 dt8 9 (((p1 * 11) + 9).toNat) 1) 9 (((p1 * 11) + 10).toNat) v_h33) := Fr_u2 hF30 (by decide)
            have S37 : STL ((u2 (u2 dt8 9 (((p1 * 11) + 9).toNat) 1) 9 (((p1 * 11) + 10).toNat) v_h33) 9) (dt 8) (VC 44 dt) p1 11 := STL_10 (B1 := (u2 dt8 9 (((p1 * 11) + 9).toNat) 1) 9) S31 (by omega) rfl u2_eq hm34 (fun j hj => u2_ne (fun z_ => hj z_.2))
            have K38 : ∀ j : Nat, (j < 11 * p1.toNat ∨ 11 * p1.toNat + 11 ≤ j) → (u2 (u2 dt8 9 (((p1 * 11) + 9).toNat) 1) 9 (((p1 * 11) + 10).toNat) v_h33) 9 j = dt 9 j := fun j hj => (u2_ne (by omega)).trans (K32 j hj)
            refine go_smpq PM114 (L' := [some (.inr (.inr (some 0))), some (.inl p1), some (.inl 1)]) (st' := []) (w' := (SH, (u2 (u2 dt8 9 (((p1 * 11) + 9).toNat) 1) 9 (((p1 * 11) + 10).toNat) v_h33))) rfl rfl (s_iast (n := 132) rfl ⟨by omega, by omega⟩ ⟨by omega, by omega⟩) ?_
            refine go_retq PM114 (k := 0) (r := none) (w1 := (SH, (u2 (u2 dt8 9 (((p1 * 11) + 9).toNat) 1) 9 (((p1 * 11) + 10).toNat) v_h33))) rfl ?_
            exact ⟨(u2 (u2 dt8 9 (((p1 * 11) + 9).toNat) 1) 9 (((p1 * 11) + 10).toNat) v_h33), rfl, hI35, hF36, ⟨rfl, ⟨by exact STL_A S37 (by omega), by exact K38⟩⟩⟩
        · skip
          refine go_toq PM114 (k := 13) (pc' := 43) (L' := [some (.inr (.inr (some 0))), some (.inl p1), some (.inl l17_2)]) (st' := [.inl l17_2, .inl p1, .inr (.inr (some 43)), .inr (.inr (some 0)), .inl ((p1 * 11) + l17_2), .inr (.inr (some 9))]) (w' := (SH, dt8)) rfl ?_
          refine go_callq PM114 PM116 (Q' := _) rfl rfl rfl rfl (sp_X5_ruleIn_f44 L xs sio (d + 0) dt8 hI9  p1 (by first | exact h_p1 | exact bnd h_p1 (by decide) (by decide) | exact ⟨by omega, by omega⟩) l17_2 (by first | exact bnd i11 (by decide) (by decide) | exact ⟨by omega, by omega⟩) (by first | exact True.intro | with_reducible assumption | rfl | fail | trivial | assumption | (rw [show dt8 7 3 = dt 7 3 from hF10 7 (by decide) 3]; omega) | (rw [show dt8 8 = dt 8 from funext (hF10 8 (by decide)), show dt8 7 3 = dt 7 3 from hF10 7 (by decide) 3]; exact h_p1) | (rw [show VC 44 dt8 = VC 44 dt from VC_frS hF10 (by decide)]; exact h_p2)) (by first | exact True.intro | with_reducible assumption | rfl | fail | trivial | assumption | (rw [show dt8 7 3 = dt 7 3 from hF10 7 (by decide) 3]; fail) | (rw [show dt8 8 = dt 8 from funext (hF10 8 (by decide)), show dt8 7 3 = dt 7 3 from hF10 7 (by decide) 3]; exact h_p1) | (rw [show VC 44 dt8 = VC 44 dt from VC_frS hF10 (by decide)]; exact h_p2))) ?_
          rintro _ _ ⟨rfl, h39⟩
          refine ⟨rfl, ?_⟩
          rcases h39 with ⟨v_h39, rfl, h39r, h39⟩
          rw [show dt8 8 = dt 8 from funext (hF10 8 (by decide)), show VC 44 dt8 = VC 44 dt from VC_frS hF10 (by decide)] at h39
          have hI40 : InvC (u2 dt8 9 (((p1 * 11) + l17_2).toNat) v_h39) := InvC_u2 hI9 (lo := -2147483648) (hi := 2147483647) rfl rfl rfl (by first | exact bnd1 h39r (by decide) | fail) (by first | exact bnd2 h39r (by decide) | fail)
          have hF41 : Fr [9] dt (u2 dt8 9 (((p1 * 11) + l17_2).toNat) v_h39) := Fr_u2 hF10 (by decide)
          refine go_smpq PM114 (L' := [some (.inr (.inr (some 0))), some (.inl p1), some (.inl l17_2)]) (st' := []) (w' := (SH, (u2 dt8 9 (((p1 * 11) + l17_2).toNat) v_h39))) rfl rfl (s_iast (n := 132) rfl ⟨by omega, by omega⟩ ⟨by omega, by omega⟩) ?_
          refine go_toq PM114 (k := 2) (pc' := 17) (L' := [some (.inr (.inr (some 0))), some (.inl p1), some (.inl (l17_2 + 1))]) (st' := []) (w' := (SH, (u2 dt8 9 (((p1 * 11) + l17_2).toNat) v_h39))) rfl ?_
          exact GO.le (ih_loop14 (l17_2 + 1) (u2 dt8 9 (((p1 * 11) + l17_2).toNat) v_h39) hI40 hF41 (by first | with_reducible assumption | omega | exact STL_0 | exact fun _ _ => rfl | exact STL_s qS (by fail) (by fail) rfl u2_eq h39 (fun j hj => u2_ne (fun z_ => hj z_.2)) | (intro j hj; rw [u2_ne (by fail)]; exact qK j hj)) (by first | with_reducible assumption | fail | exact STL_0 | exact fun _ _ => rfl | exact STL_s qS (by omega) (by omega) rfl u2_eq h39 (fun j hj => u2_ne (fun z_ => hj z_.2)) | (intro j hj; rw [u2_ne (by fail)]; exact qK j hj)) (by first | with_reducible assumption | fail | exact STL_0 | exact fun _ _ => rfl | exact STL_s qS (by omega) (by omega) rfl u2_eq h39 (fun j hj => u2_ne (fun z_ => hj z_.2)) | (intro j hj; rw [u2_ne (by omega)]; exact qK j hj)) (by omega)) ⟨.inl rfl, .inl rfl, .inl rfl, trivial⟩
    exact GO.le (loop14 _ 0 dt hI hF (by first | with_reducible assumption | omega | exact STL_0 | exact fun _ _ => rfl | exact STL_s qS (by fail) (by fail) rfl u2_eq hI (fun j hj => u2_ne (fun z_ => hj z_.2)) | (intro j hj; rw [u2_ne (by fail)]; exact qK j hj)) (by first | with_reducible assumption | fail | exact STL_0 | exact fun _ _ => rfl | exact STL_s qS (by fail) (by fail) rfl u2_eq hI (fun j hj => u2_ne (fun z_ => hj z_.2)) | (intro j hj; rw [u2_ne (by fail)]; exact qK j hj)) (by first | with_reducible assumption | omega | exact STL_0 | exact fun _ _ => rfl | exact STL_s qS (by fail) (by fail) rfl u2_eq hI (fun j hj => u2_ne (fun z_ => hj z_.2)) | (intro j hj; rw [u2_ne (by fail)]; exact qK j hj)) (Nat.lt_succ_self _)) ⟨.inl rfl, .inl rfl, .inl rfl, trivial⟩
  · skip
    exfalso; omega
theorem sp_X5_settleAll_f (L : Nat) (xs : Nat → Int32) (sio : Option Nat) (d : Nat) (dt : Nat → Nat → Int) (hI : InvC dt) (F : Nat → Int) (hMF : MW F) (p1 : Int) (h_p1 : 0 ≤ p1 ∧ p1 ≤ 7) (h_p0 : SCL (dt 2) (dt 3) F) (h_p1 : QOC (dt 8) (dt 7 3)) : GO (am_XX L xs sio) (d + 5) 115 0 [some (.inr (.inr (some 0))), some (.inl p1), none] [] (SH, dt) (fun r w2 => ∃ dt2 : Nat → Nat → Int, w2 = (SH, dt2) ∧ InvC dt2 ∧ Fr [9, 44, 45, 46, 47, 48, 49, 50, 51, 52, 53, 54, 55, 56] dt dt2 ∧ ((r = none ∧ (SAL (dt 9) (dt2 9) (dt 8) (wend F p1) p1 (dt 7 3))))) := by
  have hF : Fr [9, 44, 45, 46, 47, 48, 49, 50, 51, 52, 53, 54, 55, 56] dt dt := Fr_refl
  have r1 : 0 ≤ dt 7 3 ∧ dt 7 3 ≤ 12 := InvC_get hI 7 3 rfl rfl
  have hok_ : WOK 24 (wend F p1) := by have z_ := MW_am hMF p1 ⟨by omega, by omega⟩; exact WOK_m (WOK_pl hMF (k := p1.toNat) (by omega) (F (6 + p1).toNat).toNat (by omega)) (by omega)
  refine go_toq PM115 (k := 2) (pc' := 2) (L' := [some (.inr (.inr (some 0))), some (.inl p1), none]) (st' := [.inl p1, .inr (.inr (some 0))]) (w' := (SH, dt)) rfl ?_
  refine go_callq PM115 PM113 (Q' := _) rfl rfl rfl rfl (sp_X5_play_wF L xs sio (d + 0) dt hI F hMF p1 (by first | exact h_p1 | exact bnd h_p1 (by decide) (by decide) | exact ⟨by omega, by omega⟩) (by first | exact True.intro | with_reducible assumption | rfl | fail | trivial | assumption | (rw [show dt 7 3 = dt 7 3 from hF 7 (by decide) 3]; fail) | (rw [show dt 8 = dt 8 from funext (hF 8 (by decide)), show dt 7 3 = dt 7 3 from hF 7 (by decide) 3]; exact h_p1) | (rw [qW]; exact hok_))) ?_
  rintro _ _ ⟨dt3, rfl, hI4, hF5, h2⟩
  refine ⟨rfl, ?_⟩
  have hF6 : Fr [9, 44, 45, 46, 47, 48, 49, 50, 51, 52, 53, 54, 55, 56] dt dt3 := Fr_tr hF hF5 (by decide)
  rcases h2 with ⟨rfl, h2⟩
  refine go_toq PM115 (k := 2) (pc' := 7) (L' := [some (.inr (.inr (some 0))), some (.inl p1), some (.inl 0)]) (st' := []) (w' := (SH, dt3)) rfl ?_
  have loop24 : ∀ (k_ : Nat) (l7_2 : Int) (dt17 : Nat → Nat → Int) (hI18 : InvC dt17) (hF19 : Fr [9, 44, 45, 46, 47, 48, 49, 50, 51, 52, 53, 54, 55, 56] dt dt17) (i20 : 0 ≤ l7_2 ∧ l7_2 ≤ 12) (i21 : SAL (dt 9) (dt17 9) (dt 8) (wend F p1) p1 l7_2) (i22 : VC 44 dt17 = wend F p1) (i23 : l7_2 ≤ dt 7 3), (13 - l7_2).toNat < k_ → GO (am_XX L xs sio) (d + 5) 115 7 [some (.inr (.inr (some 0))), some (.inl p1), some (.inl l7_2)] [] (SH, dt17) (fun r w2 => ∃ dt2 : Nat → Nat → Int, w2 = (SH, dt2) ∧ InvC dt2 ∧ Fr [9, 44, 45, 46, 47, 48, 49, 50, 51, 52, 53, 54, 55, 56] dt dt2 ∧ ((r = none ∧ (SAL (dt 9) (dt2 9) (dt 8) (wend F p1) p1 (dt 7 3))))) := by
    intro k_
    induction k_ with
    | zero => intro l7_2 dt17 hI18 hF19 i20 i21 i22 i23 hm; exact absurd hm (Nat.not_lt_zero _)
    | succ k_ ih_loop24 =>
      intro l7_2 dt17 hI18 hF19 i20 i21 i22 i23 hm
      have qS := i21
      have qW := i22
      have qF := hF19
      refine go_toq PM115 (k := 4) (pc' := 15) (L' := [some (.inr (.inr (some 0))), some (.inl p1), some (.inl l7_2)]) (st' := [.inr (.inr (some 7)), .inl l7_2]) (w' := (SH, dt17)) rfl ?_
      refine go_smpq PM115 (L' := [some (.inr (.inr (some 0))), some (.inl p1), some (.inl l7_2)]) (st' := [.inl (dt 7 3), .inl l7_2]) (w' := (SH, dt17)) rfl rfl (s_gfc rfl rfl rfl (hF19 7 (by decide) 3)) ?_
      refine go_ifq PM115 (k := 0) (p1 := 48) (p2 := 21) (L' := [some (.inr (.inr (some 0))), some (.inl p1), some (.inl l7_2)]) (st' := []) (w' := (SH, dt17)) rfl (c_ge (a := l7_2) (b := dt 7 3) (by first | exact bnd i20 (by decide) (by decide) | exact ⟨by fail, by fail⟩) (by first | exact bnd r1 (by decide) (by decide) | exact ⟨by fail, by fail⟩)) (fun c25 => ?_) (fun c25 => ?_)
      · skip
        refine go_retq PM115 (k := 0) (r := none) (w1 := (SH, dt17)) rfl ?_
        exact ⟨dt17, rfl, hI18, hF19, ⟨rfl, by exact SAL_e qS (by omega)⟩⟩
      · skip
        refine go_toq PM115 (k := 5) (pc' := 30) (L' := [some (.inr (.inr (some 0))), some (.inl p1), some (.inl l7_2)]) (st' := [.inl 0, .inl l7_2, .inr (.inr (some 7))]) (w' := (SH, dt17)) rfl ?_
        refine go_callq PM115 PM39 (Q' := _) rfl rfl rfl rfl (sp_X2_at_7_0 L xs sio (d + 3) dt17 hI18  l7_2 (by first | exact bnd i20 (by decide) (by decide) | exact bndd i20 c25 (by decide) (by decide) | exact ⟨by omega, by omega⟩) (by first | exact True.intro | with_reducible assumption | rfl | fail | trivial | assumption | (rw [show dt17 7 3 = dt 7 3 from hF19 7 (by decide) 3]; omega) | (rw [show dt17 8 = dt 8 from funext (hF19 8 (by decide)), show dt17 7 3 = dt 7 3 from hF19 7 (by decide) 3]; exact h_p1) | (rw [qW]; exact hok_)) (by first | exact True.intro | with_reducible assumption | rfl | fail | trivial | assumption | (rw [show dt17 7 3 = dt 7 3 from hF19 7 (by decide) 3]; fail) | (rw [show dt17 8 = dt 8 from funext (hF19 8 (by decide)), show dt17 7 3 = dt 7 3 from hF19 7 (by decide) 3]; exact h_p1) | (rw [qW]; exact hok_))) ?_
        rintro _ _ ⟨rfl, h26⟩
        refine ⟨rfl, ?_⟩
        rcases h26 with ⟨rfl, h26⟩
        refine go_ifq PM115 (k := 1) (p1 := 42) (p2 := 37) (L' := [some (.inr (.inr (some 0))), some (.inl p1), some (.inl l7_2)]) (st' := []) (w' := (SH, dt17)) rfl (c_ne (a := dt17 8 (((l7_2 * 5) + 0)).toNat) (b := p1) ⟨by omega, by omega⟩ (by first | exact bnd h_p1 (by decide) (by decide) | exact ⟨by omega, by omega⟩)) (fun c27 => ?_) (fun c27 => ?_)
        · skip
          replace c27 := hid c27
          refine go_toq PM115 (k := 2) (pc' := 7) (L' := [some (.inr (.inr (some 0))), some (.inl p1), some (.inl (l7_2 + 1))]) (st' := []) (w' := (SH, dt17)) rfl ?_
          exact GO.le (ih_loop24 (l7_2 + 1) dt17 hI18 hF19 (by first | with_reducible assumption | exact unhid (by with_reducible assumption) | omega | exact h2 | exact qW | (rw [show dt3 9 = dt 9 from funext (hF5 9 (by decide))]; exact SAL_0) | exact SAL_y qS (by fail) (show dt 8 (5 * l7_2.toNat) = p1 by rw [show 5 * l7_2.toNat = (((l7_2 * 5) + 0)).toNat by first | with_reducible assumption | exact unhid (by with_reducible assumption) | fail, ← (qF 8 (by decide) _)]; fail) hI hI | exact SAL_n qS (by fail) (show ¬ dt 8 (5 * l7_2.toNat) = p1 by rw [show 5 * l7_2.toNat = (((l7_2 * 5) + 0)).toNat by first | with_reducible assumption | exact unhid (by with_reducible assumption) | fail, ← (qF 8 (by decide) _)]; fail)) (by first | with_reducible assumption | exact unhid (by with_reducible assumption) | fail | exact h2 | exact qW | (rw [show dt3 9 = dt 9 from funext (hF5 9 (by decide))]; exact SAL_0) | exact SAL_y qS (by fail) (show dt 8 (5 * l7_2.toNat) = p1 by rw [show 5 * l7_2.toNat = (((l7_2 * 5) + 0)).toNat by first | with_reducible assumption | exact unhid (by with_reducible assumption) | fail, ← (qF 8 (by decide) _)]; fail) hI hI | exact SAL_n qS (by omega) (show ¬ dt 8 (5 * l7_2.toNat) = p1 by rw [show 5 * l7_2.toNat = (((l7_2 * 5) + 0)).toNat by first | with_reducible assumption | exact unhid (by with_reducible assumption) | omega, ← (qF 8 (by decide) _)]; (have z_ := unhid c27; omega))) (by first | with_reducible assumption | exact unhid (by with_reducible assumption) | fail | exact h2 | exact qW | (rw [show dt3 9 = dt 9 from funext (hF5 9 (by decide))]; exact SAL_0) | exact SAL_y qS (by fail) (show dt 8 (5 * l7_2.toNat) = p1 by rw [show 5 * l7_2.toNat = (((l7_2 * 5) + 0)).toNat by first | with_reducible assumption | exact unhid (by with_reducible assumption) | fail, ← (qF 8 (by decide) _)]; fail) hI hI | exact SAL_n qS (by fail) (show ¬ dt 8 (5 * l7_2.toNat) = p1 by rw [show 5 * l7_2.toNat = (((l7_2 * 5) + 0)).toNat by first | with_reducible assumption | exact unhid (by with_reducible assumption) | fail, ← (qF 8 (by decide) _)]; fail)) (by first | with_reducible assumption | exact unhid (by with_reducible assumption) | omega | exact h2 | exact qW | (rw [show dt3 9 = dt 9 from funext (hF5 9 (by decide))]; exact SAL_0) | exact SAL_y qS (by fail) (show dt 8 (5 * l7_2.toNat) = p1 by rw [show 5 * l7_2.toNat = (((l7_2 * 5) + 0)).toNat by first | with_reducible assumption | exact unhid (by with_reducible assumption) | fail, ← (qF 8 (by decide) _)]; fail) hI hI | exact SAL_n qS (by fail) (show ¬ dt 8 (5 * l7_2.toNat) = p1 by rw [show 5 * l7_2.toNat = (((l7_2 * 5) + 0)).toNat by first | with_reducible assumption | exact unhid (by with_reducible assumption) | fail, ← (qF 8 (by decide) _)]; fail)) (by omega)) ⟨.inl rfl, .inl rfl, .inl rfl, trivial⟩
        · skip
          refine go_toq PM115 (k := 2) (pc' := 39) (L' := [some (.inr (.inr (some 0))), some (.inl p1), some (.inl l7_2)]) (st' := [.inl l7_2, .inr (.inr (some 0))]) (w' := (SH, dt17)) rfl ?_
          refine go_callq PM115 PM114 (Q' := _) rfl rfl rfl rfl (sp_X5_settle_f L xs sio (d + 0) dt17 hI18  l7_2 (by first | exact bnd i20 (by decide) (by decide) | exact bndd i20 c25 (by decide) (by decide) | exact ⟨by omega, by omega⟩) (by first | exact True.intro | with_reducible assumption | rfl | fail | trivial | assumption | (rw [show dt17 7 3 = dt 7 3 from hF19 7 (by decide) 3]; omega) | (rw [show dt17 8 = dt 8 from funext (hF19 8 (by decide)), show dt17 7 3 = dt 7 3 from hF19 7 (by decide) 3]; exact h_p1) | (rw [qW]; exact hok_)) (by first | exact True.intro | with_reducible assumption | rfl | fail | trivial | assumption | (rw [show dt17 7 3 = dt 7 3 from hF19 7 (by decide) 3]; fail) | (rw [show dt17 8 = dt 8 from funext (hF19 8 (by decide)), show dt17 7 3 = dt 7 3 from hF19 7 (by decide) 3]; exact h_p1) | (rw [qW]; exact hok_)) (by first | exact True.intro | with_reducible assumption | rfl | fail | trivial | assumption | (rw [show dt17 7 3 = dt 7 3 from hF19 7 (by decide) 3]; fail) | (rw [show dt17 8 = dt 8 from funext (hF19 8 (by decide)), show dt17 7 3 = dt 7 3 from hF19 7 (by decide) 3]; exact h_p1) | (rw [qW]; exact hok_))) ?_
          rintro _ _ ⟨dt29, rfl, hI30, hF31, h28⟩
          refine ⟨rfl, ?_⟩
          have hF32 : Fr [9, 44, 45, 46, 47, 48, 49, 50, 51, 52, 53, 54, 55, 56] dt dt29 := Fr_tr hF19 hF31 (by decide)
          rcases h28 with ⟨rfl, h28⟩
          obtain ⟨h28_0, h28_1⟩ := h28
          have h33 := h28_0
          rw [show dt17 8 = dt 8 from funext (hF19 8 (by decide)), qW] at h33
          refine go_toq PM115 (k := 2) (pc' := 7) (L' := [some (.inr (.inr (some 0))), some (.inl p1), some (.inl (l7_2 + 1))]) (st' := []) (w' := (SH, dt29)) rfl ?_
          exact GO.le (ih_loop24 (l7_2 + 1) dt29 hI30 hF32 (by first | with_reducible assumption | omega | exact ((VC_frS hF31 (by decide)).trans qW) | exact qW | (rw [show dt3 9 = dt 9 from funext (hF5 9 (by decide))]; exact SAL_0) | exact SAL_y qS (by fail) (show dt 8 (5 * l7_2.toNat) = p1 by rw [show 5 * l7_2.toNat = (((l7_2 * 5) + 0)).toNat by first | with_reducible assumption | fail, ← (qF 8 (by decide) _)]; fail) h33 h28_1 | exact SAL_n qS (by fail) (show ¬ dt 8 (5 * l7_2.toNat) = p1 by rw [show 5 * l7_2.toNat = (((l7_2 * 5) + 0)).toNat by first | with_reducible assumption | fail, ← (qF 8 (by decide) _)]; fail)) (by first | with_reducible assumption | fail | exact ((VC_frS hF31 (by decide)).trans qW) | exact qW | (rw [show dt3 9 = dt 9 from funext (hF5 9 (by decide))]; exact SAL_0) | exact SAL_y qS (by omega) (show dt 8 (5 * l7_2.toNat) = p1 by rw [show 5 * l7_2.toNat = (((l7_2 * 5) + 0)).toNat by first | with_reducible assumption | omega, ← (qF 8 (by decide) _)]; omega) h33 h28_1 | exact SAL_n qS (by fail) (show ¬ dt 8 (5 * l7_2.toNat) = p1 by rw [show 5 * l7_2.toNat = (((l7_2 * 5) + 0)).toNat by first | with_reducible assumption | fail, ← (qF 8 (by decide) _)]; fail)) (by first | with_reducible assumption | fail | exact ((VC_frS hF31 (by decide)).trans qW) | exact qW | (rw [show dt3 9 = dt 9 from funext (hF5 9 (by decide))]; exact SAL_0) | exact SAL_y qS (by fail) (show dt 8 (5 * l7_2.toNat) = p1 by rw [show 5 * l7_2.toNat = (((l7_2 * 5) + 0)).toNat by first | with_reducible assumption | fail, ← (qF 8 (by decide) _)]; fail) h33 h28_1 | exact SAL_n qS (by fail) (show ¬ dt 8 (5 * l7_2.toNat) = p1 by rw [show 5 * l7_2.toNat = (((l7_2 * 5) + 0)).toNat by first | with_reducible assumption | fail, ← (qF 8 (by decide) _)]; fail)) (by first | with_reducible assumption | omega | exact ((VC_frS hF31 (by decide)).trans qW) | exact qW | (rw [show dt3 9 = dt 9 from funext (hF5 9 (by decide))]; exact SAL_0) | exact SAL_y qS (by fail) (show dt 8 (5 * l7_2.toNat) = p1 by rw [show 5 * l7_2.toNat = (((l7_2 * 5) + 0)).toNat by first | with_reducible assumption | fail, ← (qF 8 (by decide) _)]; fail) h33 h28_1 | exact SAL_n qS (by fail) (show ¬ dt 8 (5 * l7_2.toNat) = p1 by rw [show 5 * l7_2.toNat = (((l7_2 * 5) + 0)).toNat by first | with_reducible assumption | fail, ← (qF 8 (by decide) _)]; fail)) (by omega)) ⟨.inl rfl, .inl rfl, .inl rfl, trivial⟩
  exact GO.le (loop24 _ 0 dt3 hI4 hF6 (by first | with_reducible assumption | omega | exact h2 | exact qW | (rw [show dt3 9 = dt 9 from funext (hF5 9 (by decide))]; exact SAL_0) | exact SAL_y qS (by fail) (show dt 8 (5 * l7_2.toNat) = p1 by rw [show 5 * l7_2.toNat = (((l7_2 * 5) + 0)).toNat by first | with_reducible assumption | fail, ← (qF 8 (by decide) _)]; fail) hI hI | exact SAL_n qS (by fail) (show ¬ dt 8 (5 * l7_2.toNat) = p1 by rw [show 5 * l7_2.toNat = (((l7_2 * 5) + 0)).toNat by first | with_reducible assumption | fail, ← (qF 8 (by decide) _)]; fail)) (by first | with_reducible assumption | fail | exact h2 | exact qW | (rw [show dt3 9 = dt 9 from funext (hF5 9 (by decide))]; exact SAL_0) | exact SAL_y qS (by fail) (show dt 8 (5 * l7_2.toNat) = p1 by rw [show 5 * l7_2.toNat = (((l7_2 * 5) + 0)).toNat by first | with_reducible assumption | fail, ← (qF 8 (by decide) _)]; fail) hI hI | exact SAL_n qS (by fail) (show ¬ dt 8 (5 * l7_2.toNat) = p1 by rw [show 5 * l7_2.toNat = (((l7_2 * 5) + 0)).toNat by first | with_reducible assumption | fail, ← (qF 8 (by decide) _)]; fail)) (by first | with_reducible assumption | fail | exact h2 | exact qW | (rw [show dt3 9 = dt 9 from funext (hF5 9 (by decide))]; exact SAL_0) | exact SAL_y qS (by fail) (show dt 8 (5 * l7_2.toNat) = p1 by rw [show 5 * l7_2.toNat = (((l7_2 * 5) + 0)).toNat by first | with_reducible assumption | fail, ← (qF 8 (by decide) _)]; fail) hI hI | exact SAL_n qS (by fail) (show ¬ dt 8 (5 * l7_2.toNat) = p1 by rw [show 5 * l7_2.toNat = (((l7_2 * 5) + 0)).toNat by first | with_reducible assumption | fail, ← (qF 8 (by decide) _)]; fail)) (by first | with_reducible assumption | omega | exact h2 | exact qW | (rw [show dt3 9 = dt 9 from funext (hF5 9 (by decide))]; exact SAL_0) | exact SAL_y qS (by fail) (show dt 8 (5 * l7_2.toNat) = p1 by rw [show 5 * l7_2.toNat = (((l7_2 * 5) + 0)).toNat by first | with_reducible assumption | fail, ← (qF 8 (by decide) _)]; fail) hI hI | exact SAL_n qS (by fail) (show ¬ dt 8 (5 * l7_2.toNat) = p1 by rw [show 5 * l7_2.toNat = (((l7_2 * 5) + 0)).toNat by first | with_reducible assumption | fail, ← (qF 8 (by decide) _)]; fail)) (Nat.lt_succ_self _)) ⟨.inl rfl, .inl rfl, .inl rfl, trivial⟩
theorem sp_X5_says_f (L : Nat) (xs : Nat → Int32) (sio : Option Nat) (d : Nat) (dt : Nat → Nat → Int) (hI : InvC dt)  (p1 : Int) (h_p1 : (-2147483648) ≤ p1 ∧ p1 ≤ 2147483647) (p2 : Int) (h_p2 : (-2147483648) ≤ p2 ∧ p2 ≤ 2147483647)  : GO (am_XX L xs sio) (d + 2) 76 0 [some (.inr (.inr (some 0))), some (.inl p1), some (.inl p2)] [] (SH, dt) (fun r w2 => w2 = (SH, dt) ∧ ((r = some (.inl (-2)) ∧ (¬ ((0 ≤ p1 ∧ p1 < dt 7 3) ∧ (0 ≤ p2 ∧ p2 ≤ 9)))) ∨ (∃ v : Int, r = some (.inl v) ∧ ((-2147483648) ≤ v ∧ v ≤ 2147483647) ∧ ((0 ≤ p1 ∧ p1 < dt 7 3) ∧ (0 ≤ p2 ∧ p2 ≤ 9)) ∧ (v = SDC (dt 9) p1.toNat p2)))) := by
  have r1 : 0 ≤ dt 7 3 ∧ dt 7 3 ≤ 12 := InvC_get hI 7 3 rfl rfl
  refine go_toq PM76 (k := 4) (pc' := 8) (L' := [some (.inr (.inr (some 0))), some (.inl p1), some (.inl p2)]) (st' := [.inl p1, .inr (.inr (some 7))]) (w' := (SH, dt)) rfl ?_
  refine go_callq PM76 PM37 (Q' := _) rfl rfl rfl rfl (sp_X2_has_7 L xs sio (d + 1) dt hI  p1 (by first | exact h_p1 | exact bnd h_p1 (by decide) (by decide) | exact ⟨by fail, by fail⟩) ) ?_
  rintro _ _ ⟨rfl, h2⟩
  refine ⟨rfl, ?_⟩
  rcases h2 with ⟨rfl, h2⟩ | ⟨rfl, h2⟩
  · skip
    refine go_toq PM76 (k := 4) (pc' := 18) (L' := [some (.inr (.inr (some 0))), some (.inl p1), some (.inl p2)]) (st' := [.inl 9, .inl 0, .inl p2]) (w' := (SH, dt)) rfl ?_
    refine go_callq PM76 PM100 (Q' := _) rfl rfl rfl rfl (sp_X5_within L xs sio (d + 1) dt hI  p2 (by first | exact h_p2 | exact bnd h_p2 (by decide) (by decide) | exact ⟨by fail, by fail⟩) 0 ⟨by decide, by decide⟩ 9 ⟨by decide, by decide⟩ ) ?_
    rintro _ _ ⟨rfl, h3⟩
    refine ⟨rfl, ?_⟩
    rcases h3 with ⟨rfl, h3⟩ | ⟨rfl, h3⟩
    · skip
      refine go_toq PM76 (k := 5) (pc' := 33) (L' := [some (.inr (.inr (some 0))), some (.inl p1), some (.inl p2)]) (st' := [.inl p2, .inl p1, .inr (.inr (some 1))]) (w' := (SH, dt)) rfl ?_
      refine go_callq PM76 PM1 (Q' := _) rfl rfl rfl rfl (sp_X0_saidOf_f L xs sio (d + 0) dt hI  p1 (by first | exact h_p1 | exact bnd h_p1 (by decide) (by decide) | exact ⟨by omega, by omega⟩) p2 (by first | exact h_p2 | exact bnd h_p2 (by decide) (by decide) | exact ⟨by omega, by omega⟩) (by first | exact True.intro | with_reducible assumption | rfl | omega | trivial)) ?_
      rintro _ _ ⟨rfl, h4⟩
      refine ⟨rfl, ?_⟩
      rcases h4 with ⟨rfl, h4⟩
      refine go_retq PM76 (k := 0) (r := some (.inl (dt 9 (((p1 * 11) + p2)).toNat))) (w1 := (SH, dt)) rfl ?_
      exact ⟨rfl, (Or.inr ⟨_, rfl, ⟨by omega, by omega⟩, ⟨by first | exact True.intro | with_reducible assumption | rfl | omega | trivial, by unfold SDC; rw [show 11 * p1.toNat + p2.toNat = (((p1 * 11) + p2)).toNat by first | with_reducible assumption | omega]⟩⟩)⟩
    · skip
      refine go_retq PM76 (k := 2) (r := some (.inl (-2))) (w1 := (SH, dt)) rfl ?_
      first | exact ⟨rfl, (Or.inl ⟨rfl, by first | exact True.intro | with_reducible assumption | rfl | omega | trivial⟩)⟩ | exact ⟨rfl, (Or.inr ⟨_, rfl, ⟨by decide, by decide⟩, ⟨by first | exact True.intro | with_reducible assumption | rfl | fail | trivial, by unfold SDC; rw [show 11 * p1.toNat + p2.toNat = (((p1 * 11) + p2)).toNat by first | with_reducible assumption | fail]⟩⟩)⟩
  · skip
    refine go_retq PM76 (k := 2) (r := some (.inl (-2))) (w1 := (SH, dt)) rfl ?_
    first | exact ⟨rfl, (Or.inl ⟨rfl, by first | exact True.intro | with_reducible assumption | rfl | omega | trivial⟩)⟩ | exact ⟨rfl, (Or.inr ⟨_, rfl, ⟨by decide, by decide⟩, ⟨by first | exact True.intro | with_reducible assumption | rfl | fail | trivial, by unfold SDC; rw [show 11 * p1.toNat + p2.toNat = (((p1 * 11) + p2)).toNat by first | with_reducible assumption | fail]⟩⟩)⟩
theorem sp_X5_partedBy_f (L : Nat) (xs : Nat → Int32) (sio : Option Nat) (d : Nat) (dt : Nat → Nat → Int) (hI : InvC dt)  (p1 : Int) (h_p1 : 0 ≤ p1 ∧ p1 ≤ 7) (p2 : Int) (h_p2 : 0 ≤ p2 ∧ p2 ≤ 7)  : GO (am_XX L xs sio) (d + 2) 120 0 [some (.inr (.inr (some 0))), some (.inl p1), some (.inl p2), none, none] [] (SH, dt) (fun r w2 => w2 = (SH, dt) ∧ ((∃ v : Int, r = some (.inl v) ∧ (0 ≤ v ∧ v ≤ 2147483647) ∧ (v = PTB (SDC (dt 9)) p1 p2 (dt 7 3).toNat)))) := by
  have r1 : 0 ≤ dt 7 3 ∧ dt 7 3 ≤ 12 := InvC_get hI 7 3 rfl rfl
  refine go_toq PM120 (k := 4) (pc' := 5) (L' := [some (.inr (.inr (some 0))), some (.inl p1), some (.inl p2), some (.inl 0), some (.inl 0)]) (st' := []) (w' := (SH, dt)) rfl ?_
  have loop14 : ∀ (k_ : Nat) (l5_3 : Int) (l5_4 : Int) (i10 : 0 ≤ l5_3 ∧ l5_3 ≤ 2147483647) (i11 : 0 ≤ l5_4 ∧ l5_4 ≤ 12) (i12 : l5_3 = PTB (SDC (dt 9)) p1 p2 l5_4.toNat) (i13 : l5_4 ≤ dt 7 3), (13 - l5_4).toNat < k_ → GO (am_XX L xs sio) (d + 2) 120 5 [some (.inr (.inr (some 0))), some (.inl p1), some (.inl p2), some (.inl l5_3), some (.inl l5_4)] [] (SH, dt) (fun r w2 => w2 = (SH, dt) ∧ ((∃ v : Int, r = some (.inl v) ∧ (0 ≤ v ∧ v ≤ 2147483647) ∧ (v = PTB (SDC (dt 9)) p1 p2 (dt 7 3).toNat)))) := by
    intro k_
    induction k_ with
    | zero => intro l5_3 l5_4 i10 i11 i12 i13 hm; exact absurd hm (Nat.not_lt_zero _)
    | succ k_ ih_loop14 =>
      intro l5_3 l5_4 i10 i11 i12 i13 hm
      have q3 := i12
      refine go_ifq PM120 (k := 5) (p1 := 60) (p2 := 20) (L' := [some (.inr (.inr (some 0))), some (.inl p1), some (.inl p2), some (.inl l5_3), some (.inl l5_4)]) (st' := []) (w' := (SH, dt)) rfl (c_ge (a := l5_4) (b := dt 7 3) (by first | exact bnd i11 (by decide) (by decide) | exact ⟨by fail, by fail⟩) (by first | exact bnd r1 (by decide) (by decide) | exact ⟨by fail, by fail⟩)) (fun c15 => ?_) (fun c15 => ?_)
      · skip
        refine go_retq PM120 (k := 1) (r := some (.inl l5_3)) (w1 := (SH, dt)) rfl ?_
        exact ⟨rfl, ⟨_, rfl, (by first | exact bnd i10 (by decide) (by decide) | exact ⟨by fail, by fail⟩), by have e_ : l5_4 = dt 7 3 := (by omega); rw [← e_]; exact q3⟩⟩
      · skip
        refine go_toq PM120 (k := 5) (pc' := 28) (L' := [some (.inr (.inr (some 0))), some (.inl p1), some (.inl p2), some (.inl l5_3), some (.inl l5_4)]) (st' := [.inl p1, .inl l5_4, .inr (.inr (some 1)), .inl l5_3]) (w' := (SH, dt)) rfl ?_
        refine go_callq PM120 PM1 (Q' := _) rfl rfl rfl rfl (sp_X0_saidOf_f L xs sio (d + 0) dt hI  l5_4 (by first | exact bnd i11 (by decide) (by decide) | exact bndd i11 c15 (by decide) (by decide) | exact ⟨by omega, by omega⟩) p1 (by first | exact h_p1 | exact bnd h_p1 (by decide) (by decide) | exact ⟨by fail, by fail⟩) (by first | exact True.intro | with_reducible assumption | rfl | omega | trivial)) ?_
        rintro _ _ ⟨rfl, h16⟩
        refine ⟨rfl, ?_⟩
        rcases h16 with ⟨rfl, h16⟩
        refine go_toq PM120 (k := 4) (pc' := 38) (L' := [some (.inr (.inr (some 0))), some (.inl p1), some (.inl p2), some (.inl l5_3), some (.inl l5_4)]) (st' := [.inl p2, .inl l5_4, .inr (.inr (some 1)), .inl (dt 9 (((l5_4 * 11) + p1)).toNat), .inl l5_3]) (w' := (SH, dt)) rfl ?_
        refine go_callq PM120 PM1 (Q' := _) rfl rfl rfl rfl (sp_X0_saidOf_f L xs sio (d + 0) dt hI  l5_4 (by first | exact bnd i11 (by decide) (by decide) | exact bndd i11 c15 (by decide) (by decide) | exact ⟨by omega, by omega⟩) p2 (by first | exact h_p2 | exact bnd h_p2 (by decide) (by decide) | exact ⟨by fail, by fail⟩) (by first | exact True.intro | with_reducible assumption | rfl | omega | trivial)) ?_
        rintro _ _ ⟨rfl, h17⟩
        refine ⟨rfl, ?_⟩
        rcases h17 with ⟨rfl, h17⟩
        refine go_ifq PM120 (k := 0) (p1 := 51) (p2 := 44) (L' := [some (.inr (.inr (some 0))), some (.inl p1), some (.inl p2), some (.inl l5_3), some (.inl l5_4)]) (st' := [.inl l5_3]) (w' := (SH, dt)) rfl (c_eq (a := dt 9 (((l5_4 * 11) + p1)).toNat) (b := dt 9 (((l5_4 * 11) + p2)).toNat) ⟨by omega, by omega⟩ ⟨by omega, by omega⟩) (fun c18 => ?_) (fun c18 => ?_)
        · skip
          have r19 : 0 ≤ am_or l5_3 0 ∧ am_or l5_3 0 ≤ 2147483647 := am_or_N (n := 31) ⟨by omega, by omega⟩ ⟨by omega, by omega⟩ (by decide) (by decide)
          refine go_toq PM120 (k := 5) (pc' := 5) (L' := [some (.inr (.inr (some 0))), some (.inl p1), some (.inl p2), some (.inl (am_or l5_3 0)), some (.inl (l5_4 + 1))]) (st' := []) (w' := (SH, dt)) rfl ?_
          exact GO.le (ih_loop14 (am_or l5_3 0) (l5_4 + 1) (by first | exact PTB_n q3 (by omega) (by unfold SDC; rw [show 11 * l5_4.toNat + p1.toNat = (((l5_4 * 11) + p1)).toNat by first | with_reducible assumption | omega, show 11 * l5_4.toNat + p2.toNat = (((l5_4 * 11) + p2)).toNat by first | with_reducible assumption | omega]; omega) | omega) (by first | exact PTB_n q3 (by omega) (by unfold SDC; rw [show 11 * l5_4.toNat + p1.toNat = (((l5_4 * 11) + p1)).toNat by first | with_reducible assumption | omega, show 11 * l5_4.toNat + p2.toNat = (((l5_4 * 11) + p2)).toNat by first | with_reducible assumption | omega]; omega) | omega) (by first | exact PTB_n q3 (by omega) (by unfold SDC; rw [show 11 * l5_4.toNat + p1.toNat = (((l5_4 * 11) + p1)).toNat by first | with_reducible assumption | omega, show 11 * l5_4.toNat + p2.toNat = (((l5_4 * 11) + p2)).toNat by first | with_reducible assumption | omega]; omega) | fail) (by first | exact PTB_n q3 (by omega) (by unfold SDC; rw [show 11 * l5_4.toNat + p1.toNat = (((l5_4 * 11) + p1)).toNat by first | with_reducible assumption | omega, show 11 * l5_4.toNat + p2.toNat = (((l5_4 * 11) + p2)).toNat by first | with_reducible assumption | omega]; omega) | omega) (by omega)) ⟨.inl rfl, .inl rfl, .inl rfl, .inl rfl, .inl rfl, trivial⟩
        · skip
          replace c18 := hid c18
          have r20 : 1 ≤ am_shl 1 l5_4 ∧ am_shl 1 l5_4 ≤ 1073741824 := shl1_R ⟨by omega, by omega⟩
          have r21 : 0 ≤ am_or l5_3 (am_shl 1 l5_4) ∧ am_or l5_3 (am_shl 1 l5_4) ≤ 2147483647 := am_or_N (n := 31) ⟨by omega, by omega⟩ ⟨by omega, by omega⟩ (by decide) (by decide)
          refine go_toq PM120 (k := 8) (pc' := 5) (L' := [some (.inr (.inr (some 0))), some (.inl p1), some (.inl p2), some (.inl (am_or l5_3 (am_shl 1 l5_4))), some (.inl (l5_4 + 1))]) (st' := []) (w' := (SH, dt)) rfl ?_
          exact GO.le (ih_loop14 (am_or l5_3 (am_shl 1 l5_4)) (l5_4 + 1) (by first | exact PTB_y q3 (by omega) (by unfold SDC; rw [show 11 * l5_4.toNat + p1.toNat = (((l5_4 * 11) + p1)).toNat by first | with_reducible assumption | exact unhid (by with_reducible assumption) | omega, show 11 * l5_4.toNat + p2.toNat = (((l5_4 * 11) + p2)).toNat by first | with_reducible assumption | exact unhid (by with_reducible assumption) | omega]; (have z_ := unhid c18; omega)) | omega) (by first | exact PTB_y q3 (by omega) (by unfold SDC; rw [show 11 * l5_4.toNat + p1.toNat = (((l5_4 * 11) + p1)).toNat by first | with_reducible assumption | exact unhid (by with_reducible assumption) | omega, show 11 * l5_4.toNat + p2.toNat = (((l5_4 * 11) + p2)).toNat by first | with_reducible assumption | exact unhid (by with_reducible assumption) | omega]; (have z_ := unhid c18; omega)) | omega) (by first | exact PTB_y q3 (by omega) (by unfold SDC; rw [show 11 * l5_4.toNat + p1.toNat = (((l5_4 * 11) + p1)).toNat by first | with_reducible assumption | exact unhid (by with_reducible assumption) | omega, show 11 * l5_4.toNat + p2.toNat = (((l5_4 * 11) + p2)).toNat by first | with_reducible assumption | exact unhid (by with_reducible assumption) | omega]; (have z_ := unhid c18; omega)) | fail) (by first | exact PTB_y q3 (by omega) (by unfold SDC; rw [show 11 * l5_4.toNat + p1.toNat = (((l5_4 * 11) + p1)).toNat by first | with_reducible assumption | exact unhid (by with_reducible assumption) | omega, show 11 * l5_4.toNat + p2.toNat = (((l5_4 * 11) + p2)).toNat by first | with_reducible assumption | exact unhid (by with_reducible assumption) | omega]; (have z_ := unhid c18; omega)) | omega) (by omega)) ⟨.inl rfl, .inl rfl, .inl rfl, .inl rfl, .inl rfl, trivial⟩
  exact GO.le (loop14 _ 0 0 (by first | rfl | omega) (by first | rfl | omega) (by first | rfl | fail) (by first | rfl | omega) (Nat.lt_succ_self _)) ⟨.inl rfl, .inl rfl, .inl rfl, .inl rfl, .inl rfl, trivial⟩
theorem sp_X5_parted_f (L : Nat) (xs : Nat → Int32) (sio : Option Nat) (d : Nat) (dt : Nat → Nat → Int) (hI : InvC dt)  (p1 : Int) (h_p1 : (-2147483648) ≤ p1 ∧ p1 ≤ 2147483647) (p2 : Int) (h_p2 : (-2147483648) ≤ p2 ∧ p2 ≤ 2147483647)  : GO (am_XX L xs sio) (d + 3) 83 0 [some (.inr (.inr (some 0))), some (.inl p1), some (.inl p2)] [] (SH, dt) (fun r w2 => w2 = (SH, dt) ∧ ((r = some (.inl (-1)) ∧ (¬ ((0 ≤ p1 ∧ p1 ≤ 7) ∧ (0 ≤ p2 ∧ p2 ≤ 7) ∧ ¬ p1 = p2))) ∨ (∃ v : Int, r = some (.inl v) ∧ (0 ≤ v ∧ v ≤ 2147483647) ∧ ((0 ≤ p1 ∧ p1 ≤ 7) ∧ (0 ≤ p2 ∧ p2 ≤ 7) ∧ ¬ p1 = p2) ∧ (v = PTB (SDC (dt 9)) p1 p2 (dt 7 3).toNat)))) := by
  refine go_toq PM83 (k := 1) (pc' := 1) (L' := [some (.inr (.inr (some 0))), some (.inl p1), some (.inl p2)]) (st' := [.inl p1]) (w' := (SH, dt)) rfl ?_
  refine go_callq PM83 PM106 (Q' := _) rfl rfl rfl rfl (sp_X5_isRule L xs sio (d + 1) dt hI  p1 (by first | exact h_p1 | exact bnd h_p1 (by decide) (by decide) | exact ⟨by fail, by fail⟩) ) ?_
  rintro _ _ ⟨rfl, h1⟩
  refine ⟨rfl, ?_⟩
  rcases h1 with ⟨rfl, h1⟩ | ⟨rfl, h1⟩
  · skip
    refine go_toq PM83 (k := 2) (pc' := 8) (L' := [some (.inr (.inr (some 0))), some (.inl p1), some (.inl p2)]) (st' := [.inl p2]) (w' := (SH, dt)) rfl ?_
    refine go_callq PM83 PM106 (Q' := _) rfl rfl rfl rfl (sp_X5_isRule L xs sio (d + 1) dt hI  p2 (by first | exact h_p2 | exact bnd h_p2 (by decide) (by decide) | exact ⟨by fail, by fail⟩) ) ?_
    rintro _ _ ⟨rfl, h2⟩
    refine ⟨rfl, ?_⟩
    rcases h2 with ⟨rfl, h2⟩ | ⟨rfl, h2⟩
    · skip
      refine go_ifq PM83 (k := 3) (p1 := 21) (p2 := 19) (L' := [some (.inr (.inr (some 0))), some (.inl p1), some (.inl p2)]) (st' := []) (w' := (SH, dt)) rfl (c_ne (a := p1) (b := p2) (by first | exact bnd h_p1 (by decide) (by decide) | exact ⟨by fail, by fail⟩) (by first | exact bnd h_p2 (by decide) (by decide) | exact ⟨by fail, by fail⟩)) (fun c3 => ?_) (fun c3 => ?_)
      · skip
        replace c3 := hid c3
        refine go_toq PM83 (k := 3) (pc' := 24) (L' := [some (.inr (.inr (some 0))), some (.inl p1), some (.inl p2)]) (st' := [.inl p2, .inl p1, .inr (.inr (some 0))]) (w' := (SH, dt)) rfl ?_
        refine go_callq PM83 PM120 (Q' := _) rfl rfl rfl rfl (sp_X5_partedBy_f L xs sio (d + 0) dt hI  p1 (by first | exact h_p1 | exact bnd h_p1 (by decide) (by decide) | exact ⟨by omega, by omega⟩) p2 (by first | exact h_p2 | exact bnd h_p2 (by decide) (by decide) | exact ⟨by omega, by omega⟩) ) ?_
        rintro _ _ ⟨rfl, h4⟩
        refine ⟨rfl, ?_⟩
        rcases h4 with ⟨v_h4, rfl, h4r, h4⟩
        refine go_retq PM83 (k := 0) (r := some (.inl v_h4)) (w1 := (SH, dt)) rfl ?_
        exact ⟨rfl, (Or.inr ⟨_, rfl, (by first | exact bnd h4r (by decide) (by decide) | exact ⟨by fail, by fail⟩), ⟨by first | exact True.intro | with_reducible assumption | exact unhid (by with_reducible assumption) | rfl | (have z_ := unhid c3; omega) | trivial, by first | exact True.intro | with_reducible assumption | exact unhid (by with_reducible assumption) | rfl | fail | trivial⟩⟩)⟩
      · skip
        refine go_retq PM83 (k := 1) (r := some (.inl (-1))) (w1 := (SH, dt)) rfl ?_
        first | exact ⟨rfl, (Or.inl ⟨rfl, by first | exact True.intro | with_reducible assumption | rfl | omega | trivial⟩)⟩ | exact ⟨rfl, (Or.inr ⟨_, rfl, ⟨by decide, by decide⟩, ⟨by first | exact True.intro | with_reducible assumption | rfl | fail | trivial, by first | exact True.intro | with_reducible assumption | rfl | fail | trivial⟩⟩)⟩
    · skip
      refine go_retq PM83 (k := 2) (r := some (.inl (-1))) (w1 := (SH, dt)) rfl ?_
      first | exact ⟨rfl, (Or.inl ⟨rfl, by first | exact True.intro | with_reducible assumption | rfl | omega | trivial⟩)⟩ | exact ⟨rfl, (Or.inr ⟨_, rfl, ⟨by decide, by decide⟩, ⟨by first | exact True.intro | with_reducible assumption | rfl | fail | trivial, by first | exact True.intro | with_reducible assumption | rfl | fail | trivial⟩⟩)⟩
  · skip
    refine go_retq PM83 (k := 2) (r := some (.inl (-1))) (w1 := (SH, dt)) rfl ?_
    first | exact ⟨rfl, (Or.inl ⟨rfl, by first | exact True.intro | with_reducible assumption | rfl | omega | trivial⟩)⟩ | exact ⟨rfl, (Or.inr ⟨_, rfl, ⟨by decide, by decide⟩, ⟨by first | exact True.intro | with_reducible assumption | rfl | fail | trivial, by first | exact True.intro | with_reducible assumption | rfl | fail | trivial⟩⟩)⟩
