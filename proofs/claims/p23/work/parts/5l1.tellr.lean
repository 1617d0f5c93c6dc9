set_option maxRecDepth 20000 in
theorem sp_X6_tellsSome_g (L : Nat) (xs : Nat → Int32) (sio : Option Nat) (d : Nat) (dt : Nat → Nat → Int) (hI : InvC dt) (hM : MW (dt 80))  (p1 : Int) (h_p1 : 0 ≤ p1 ∧ p1 ≤ 11)  : GO (am_XX L xs sio) (d + 5) 196 0 [some (.inr (.inr (some 79))), some (.inl p1)] [] (SH, dt) (fun r w2 => ∃ dt2 : Nat → Nat → Int, w2 = (SH, dt2) ∧ InvC dt2 ∧ Fr [88, 89, 90, 91, 92, 93, 94, 95, 96, 97, 98, 99, 100] dt dt2 ∧ ((r = some (.inl 1) ∧ (¬ SAID (dt 80) p1.toNat 8 = SAID (dt 80) p1.toNat 0) ∧ (VR dt2 = wend (dt 80) (dt 80 (5320 + 5 * p1.toNat)))) ∨ (r = some (.inl 0) ∧ (SAID (dt 80) p1.toNat 8 = SAID (dt 80) p1.toNat 0) ∧ (VR dt2 = wend (dt 80) (dt 80 (5320 + 5 * p1.toNat)))))) := by
  have hF : Fr [88, 89, 90, 91, 92, 93, 94, 95, 96, 97, 98, 99, 100] dt dt := Fr_refl
  have e8_ := SAID_1 (f := dt 80) (q := p1.toNat)
  refine go_toq PM196 (k := 4) (pc' := 4) (L' := [some (.inr (.inr (some 79))), some (.inl p1)]) (st' := [.inl 0, .inl p1, .inr (.inr (some 79)), .inr (.inr (some 79))]) (w' := (SH, dt)) rfl ?_
  refine go_callq PM196 PM191 (Q' := _) rfl rfl rfl rfl (sp_X6_asked_0 L xs sio (d + 4) dt hI hM  p1 (by first | exact h_p1 | exact bnd h_p1 (by decide) (by decide) | exact ⟨by omega, by omega⟩) ) ?_
  rintro _ _ ⟨rfl, h1⟩
  refine ⟨rfl, ?_⟩
  rcases h1 with ⟨rfl, h1⟩
  refine go_callq PM196 PM184 (Q' := _) rfl rfl rfl rfl (sp_X6_goes_w L xs sio (d + 0) dt hI hM  (dt 80 (((5320 + (5 * p1)) + 0)).toNat) ⟨by omega, by omega⟩ ) ?_
  rintro _ _ ⟨dt3, rfl, hI4, hF5, h2⟩
  refine ⟨rfl, ?_⟩
  have hF6 : Fr [88, 89, 90, 91, 92, 93, 94, 95, 96, 97, 98, 99, 100] dt dt3 := Fr_tr hF hF5 (by decide)
  rcases h2 with ⟨rfl, h2⟩
  have we7 : VR dt3 = wend (dt 80) (dt 80 (5320 + 5 * (p1).toNat)) := by have z_ := h2; rw [show 5320 + 5 * (p1).toNat = (((5320 + (5 * p1)) + 0)).toNat by first | with_reducible assumption | omega]; exact z_
  refine go_toq PM196 (k := 3) (pc' := 13) (L' := [some (.inr (.inr (some 79))), some (.inl p1)]) (st' := [.inl 1, .inl p1, .inr (.inr (some 79))]) (w' := (SH, dt3)) rfl ?_
  refine go_callq PM196 PM194 (Q' := _) rfl rfl rfl rfl (sp_X6_saysNow_f L xs sio (d + 3) dt3 hI4 (MW_fr hM hF6 (by decide))  p1 (by first | exact h_p1 | exact bnd h_p1 (by decide) (by decide) | exact ⟨by omega, by omega⟩) 1 ⟨by decide, by decide⟩ ) ?_
  rintro _ _ ⟨rfl, h8⟩
  refine ⟨rfl, ?_⟩
  rcases h8 with ⟨v_h8, rfl, h8r, h8⟩
  have sn9 : v_h8 = SAID (dt 80) (p1).toNat 1 := by have z_ := h8; rw [we7, show dt3 80 = dt 80 from funext (hF6 80 (by decide))] at z_; rw [SAID_r (by omega)]; exact z_
  refine go_toq PM196 (k := 3) (pc' := 19) (L' := [some (.inr (.inr (some 79))), some (.inl p1)]) (st' := [.inl 0, .inl p1, .inr (.inr (some 79)), .inl v_h8]) (w' := (SH, dt3)) rfl ?_
  refine go_callq PM196 PM194 (Q' := _) rfl rfl rfl rfl (sp_X6_saysNow_f L xs sio (d + 3) dt3 hI4 (MW_fr hM hF6 (by decide))  p1 (by first | exact h_p1 | exact bnd h_p1 (by decide) (by decide) | exact ⟨by omega, by omega⟩) 0 ⟨by decide, by decide⟩ ) ?_
  rintro _ _ ⟨rfl, h10⟩
  refine ⟨rfl, ?_⟩
  rcases h10 with ⟨v_h10, rfl, h10r, h10⟩
  have sn11 : v_h10 = SAID (dt 80) (p1).toNat 0 := by have z_ := h10; rw [we7, show dt3 80 = dt 80 from funext (hF6 80 (by decide))] at z_; rw [SAID_r (by omega)]; exact z_
  refine go_ifq PM196 (k := 0) (p1 := 29) (p2 := 25) (L' := [some (.inr (.inr (some 79))), some (.inl p1)]) (st' := []) (w' := (SH, dt3)) rfl (c_eq (a := v_h8) (b := v_h10) (by first | exact bnd h8r (by decide) (by decide) | exact ⟨by omega, by omega⟩) (by first | exact bnd h10r (by decide) (by decide) | exact ⟨by omega, by omega⟩)) (fun c12 => ?_) (fun c12 => ?_)
  · skip
    refine go_retq PM196 (k := 1) (r := some (.inl 0)) (w1 := (SH, dt3)) rfl ?_
    exact ⟨dt3, rfl, hI4, hF6, (Or.inr ⟨rfl, ⟨by first | exact True.intro | with_reducible assumption | rfl | omega | trivial, by exact we7⟩⟩)⟩
  · skip
    replace c12 := hid c12
    refine go_retq PM196 (k := 2) (r := some (.inl 1)) (w1 := (SH, dt3)) rfl ?_
    exact ⟨dt3, rfl, hI4, hF6, (Or.inl ⟨rfl, ⟨by first | exact True.intro | with_reducible assumption | exact unhid (by with_reducible assumption) | rfl | (first | omega | (have z0_ := unhid c12; omega)) | trivial, by exact we7⟩⟩)⟩
