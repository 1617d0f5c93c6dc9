theorem sp_X2_at_16_0 (L : Nat) (xs : Nat → Int32) (sio : Option Nat) (d : Nat) (dt : Nat → Nat → Int) (hI : InvC dt)  (p1 : Int) (h_p1 : 0 ≤ p1 ∧ p1 ≤ 19) (h_p0 : p1 < dt 16 3) (h_p1 : RB 1 999 0 999 (dt 17) (dt 16 3)) : GO (am_XX L xs sio) (d + 1) 39 0 [some (.inr (.inr (some 16))), some (.inl p1), some (.inl 0)] [] (SH, dt) (fun r w2 => w2 = (SH, dt) ∧ ((r = some (.inl (dt 17 (((p1 * 2) + 0)).toNat)) ∧ (1 ≤ dt 17 (((p1 * 2) + 0)).toNat ∧ dt 17 (((p1 * 2) + 0)).toNat ≤ 999)))) := by
  have r1 : 0 ≤ dt 16 3 ∧ dt 16 3 ≤ 20 := InvC_get hI 16 3 rfl rfl
  have hEB := h_p1 p1 (by omega) (by omega)
  refine go_toq PM39 (k := 2) (pc' := 2) (L' := [some (.inr (.inr (some 16))), some (.inl p1), some (.inl 0)]) (st' := [.inl p1, .inr (.inr (some 16))]) (w' := (SH, dt)) rfl ?_
  refine go_callq PM39 PM37 (Q' := _) rfl rfl rfl rfl (sp_X2_has_16 L xs sio (d + 0) dt hI  p1 (by first | exact h_p1 | exact bnd h_p1 (by decide) (by decide) | exact ⟨by omega, by omega⟩) ) ?_
  rintro _ _ ⟨rfl, h2⟩
  refine ⟨rfl, ?_⟩
  rcases h2 with ⟨rfl, h2⟩ | ⟨rfl, h2⟩
  · skip
    refine go_toq PM39 (k := 5) (pc' := 14) (L' := [some (.inr (.inr (some 16))), some (.inl p1), some (.inl 0)]) (st' := [.inr (.inr (some 16)), .inl 0]) (w' := (SH, dt)) rfl ?_
    refine go_smpq PM39 (L' := [some (.inr (.inr (some 16))), some (.inl p1), some (.inl 0)]) (st' := [.inl 2, .inl 0]) (w' := (SH, dt)) rfl rfl (s_gfc rfl rfl rfl (hI.2 16 1 rfl)) ?_
    refine go_toq PM39 (k := 5) (pc' := 26) (L' := [some (.inr (.inr (some 16))), some (.inl p1), some (.inl 0)]) (st' := [.inr (.inr (some 16)), .inl p1, .inr (.inr (some 17))]) (w' := (SH, dt)) rfl ?_
    refine go_smpq PM39 (L' := [some (.inr (.inr (some 16))), some (.inl p1), some (.inl 0)]) (st' := [.inl 2, .inl p1, .inr (.inr (some 17))]) (w' := (SH, dt)) rfl rfl (s_gfc rfl rfl rfl (hI.2 16 1 rfl)) ?_
    refine go_toq PM39 (k := 3) (pc' := 32) (L' := [some (.inr (.inr (some 16))), some (.inl p1), some (.inl 0)]) (st' := [.inl ((p1 * 2) + 0), .inr (.inr (some 17))]) (w' := (SH, dt)) rfl ?_
    have r3 : (-2147483648) ≤ dt 17 (((p1 * 2) + 0).toNat) ∧ dt 17 (((p1 * 2) + 0).toNat) ≤ 2147483647 := InvC_get hI 17 (((p1 * 2) + 0).toNat) rfl rfl
    refine go_smpq PM39 (L' := [some (.inr (.inr (some 16))), some (.inl p1), some (.inl 0)]) (st' := [.inl (dt 17 (((p1 * 2) + 0).toNat))]) (w' := (SH, dt)) rfl rfl (s_iald (n := 40) (f := dt 17) rfl ⟨by omega, by omega⟩) ?_
    refine go_retq PM39 (k := 1) (r := some (.inl (dt 17 (((p1 * 2) + 0).toNat)))) (w1 := (SH, dt)) rfl ?_
    exact ⟨rfl, ⟨rfl, by first | exact True.intro | with_reducible assumption | rfl | omega | trivial⟩⟩
  · skip
    exfalso; omega
theorem sp_X2_at_16_1 (L : Nat) (xs : Nat → Int32) (sio : Option Nat) (d : Nat) (dt : Nat → Nat → Int) (hI : InvC dt)  (p1 : Int) (h_p1 : 0 ≤ p1 ∧ p1 ≤ 19) (h_p0 : p1 < dt 16 3) (h_p1 : RB 1 999 0 999 (dt 17) (dt 16 3)) : GO (am_XX L xs sio) (d + 1) 39 0 [some (.inr (.inr (some 16))), some (.inl p1), some (.inl 1)] [] (SH, dt) (fun r w2 => w2 = (SH, dt) ∧ ((r = some (.inl (dt 17 (((p1 * 2) + 1)).toNat)) ∧ (0 ≤ dt 17 (((p1 * 2) + 1)).toNat ∧ dt 17 (((p1 * 2) + 1)).toNat ≤ 999)))) := by
  have r1 : 0 ≤ dt 16 3 ∧ dt 16 3 ≤ 20 := InvC_get hI 16 3 rfl rfl
  have hEB := h_p1 p1 (by omega) (by omega)
  refine go_toq PM39 (k := 2) (pc' := 2) (L' := [some (.inr (.inr (some 16))), some (.inl p1), some (.inl 1)]) (st' := [.inl p1, .inr (.inr (some 16))]) (w' := (SH, dt)) rfl ?_
  refine go_callq PM39 PM37 (Q' := _) rfl rfl rfl rfl (sp_X2_has_16 L xs sio (d + 0) dt hI  p1 (by first | exact h_p1 | exact bnd h_p1 (by decide) (by decide) | exact ⟨by omega, by omega⟩) ) ?_
  rintro _ _ ⟨rfl, h2⟩
  refine ⟨rfl, ?_⟩
  rcases h2 with ⟨rfl, h2⟩ | ⟨rfl, h2⟩
  · skip
    refine go_toq PM39 (k := 5) (pc' := 14) (L' := [some (.inr (.inr (some 16))), some (.inl p1), some (.inl 1)]) (st' := [.inr (.inr (some 16)), .inl 1]) (w' := (SH, dt)) rfl ?_
    refine go_smpq PM39 (L' := [some (.inr (.inr (some 16))), some (.inl p1), some (.inl 1)]) (st' := [.inl 2, .inl 1]) (w' := (SH, dt)) rfl rfl (s_gfc rfl rfl rfl (hI.2 16 1 rfl)) ?_
    refine go_toq PM39 (k := 5) (pc' := 26) (L' := [some (.inr (.inr (some 16))), some (.inl p1), some (.inl 1)]) (st' := [.inr (.inr (some 16)), .inl p1, .inr (.inr (some 17))]) (w' := (SH, dt)) rfl ?_
    refine go_smpq PM39 (L' := [some (.inr (.inr (some 16))), some (.inl p1), some (.inl 1)]) (st' := [.inl 2, .inl p1, .inr (.inr (some 17))]) (w' := (SH, dt)) rfl rfl (s_gfc rfl rfl rfl (hI.2 16 1 rfl)) ?_
    refine go_toq PM39 (k := 3) (pc' := 32) (L' := [some (.inr (.inr (some 16))), some (.inl p1), some (.inl 1)]) (st' := [.inl ((p1 * 2) + 1), .inr (.inr (some 17))]) (w' := (SH, dt)) rfl ?_
    have r3 : (-2147483648) ≤ dt 17 (((p1 * 2) + 1).toNat) ∧ dt 17 (((p1 * 2) + 1).toNat) ≤ 2147483647 := InvC_get hI 17 (((p1 * 2) + 1).toNat) rfl rfl
    refine go_smpq PM39 (L' := [some (.inr (.inr (some 16))), some (.inl p1), some (.inl 1)]) (st' := [.inl (dt 17 (((p1 * 2) + 1).toNat))]) (w' := (SH, dt)) rfl rfl (s_iald (n := 40) (f := dt 17) rfl ⟨by omega, by omega⟩) ?_
    refine go_retq PM39 (k := 1) (r := some (.inl (dt 17 (((p1 * 2) + 1).toNat)))) (w1 := (SH, dt)) rfl ?_
    exact ⟨rfl, ⟨rfl, by first | exact True.intro | with_reducible assumption | rfl | omega | trivial⟩⟩
  · skip
    exfalso; omega
