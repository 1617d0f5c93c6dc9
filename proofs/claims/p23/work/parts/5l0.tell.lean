theorem sp_X5_isTelling_f (L : Nat) (xs : Nat → Int32) (sio : Option Nat) (d : Nat) (dt : Nat → Nat → Int) (hI : InvC dt)  (p1 : Int) (h_p1 : 0 ≤ p1 ∧ p1 ≤ 11) (p2 : Int) (h_p2 : 0 ≤ p2 ∧ p2 ≤ 1) (h_p0 : p1 < dt 7 3) (h_p1 : QOC (dt 8) (dt 7 3)) : GO (am_XX L xs sio) (d + 2) 117 0 [some (.inr (.inr (some 0))), some (.inl p1), some (.inl p2)] [] (SH, dt) (fun r w2 => w2 = (SH, dt) ∧ ((r = some (.inl 1) ∧ (dt 8 (5 * p1.toNat + 1) = p2 ∧ SDC (dt 9) p1.toNat 9 = 1)) ∨ (r = some (.inl 0) ∧ (¬ (dt 8 (5 * p1.toNat + 1) = p2 ∧ SDC (dt 9) p1.toNat 9 = 1))))) := by
  refine go_toq PM117 (k := 5) (pc' := 9) (L' := [some (.inr (.inr (some 0))), some (.inl p1), some (.inl p2)]) (st' := [.inl 1, .inl p1, .inr (.inr (some 7))]) (w' := (SH, dt)) rfl ?_
  refine go_callq PM117 PM39 (Q' := _) rfl rfl rfl rfl (sp_X2_at_7_1 L xs sio (d + 0) dt hI  p1 (by first | exact h_p1 | exact bnd h_p1 (by decide) (by decide) | exact ⟨by omega, by omega⟩) (by first | exact True.intro | with_reducible assumption | rfl | omega | trivial) (by first | exact True.intro | with_reducible assumption | rfl | omega | trivial)) ?_
  rintro _ _ ⟨rfl, h1⟩
  refine ⟨rfl, ?_⟩
  rcases h1 with ⟨rfl, h1⟩
  have ix2 : dt 8 (((p1 * 5) + 1)).toNat = dt 8 (5 * p1.toNat + 1) := by rw [show 5 * p1.toNat + 1 = (((p1 * 5) + 1)).toNat by first | with_reducible assumption | omega]
  refine go_ifq PM117 (k := 1) (p1 := 34) (p2 := 16) (L' := [some (.inr (.inr (some 0))), some (.inl p1), some (.inl p2)]) (st' := []) (w' := (SH, dt)) rfl (c_ne (a := dt 8 (((p1 * 5) + 1)).toNat) (b := p2) ⟨by omega, by omega⟩ (by first | exact bnd h_p2 (by decide) (by decide) | exact ⟨by omega, by omega⟩)) (fun c3 => ?_) (fun c3 => ?_)
  · skip
    replace c3 := hid c3
    refine go_retq PM117 (k := 1) (r := some (.inl 0)) (w1 := (SH, dt)) rfl ?_
    exact ⟨rfl, (Or.inr ⟨rfl, by intro z_; have y1_ := z_.1; have y2_ := z_.2; (first | omega | (have z0_ := unhid c3; omega))⟩)⟩
  · skip
    refine go_toq PM117 (k := 4) (pc' := 23) (L' := [some (.inr (.inr (some 0))), some (.inl p1), some (.inl p2)]) (st' := [.inl 9, .inl p1, .inr (.inr (some 1))]) (w' := (SH, dt)) rfl ?_
    refine go_callq PM117 PM1 (Q' := _) rfl rfl rfl rfl (sp_X0_saidOf_f L xs sio (d + 0) dt hI  p1 (by first | exact h_p1 | exact bnd h_p1 (by decide) (by decide) | exact ⟨by omega, by omega⟩) 9 ⟨by decide, by decide⟩ (by first | exact True.intro | with_reducible assumption | rfl | omega | trivial)) ?_
    rintro _ _ ⟨rfl, h4⟩
    refine ⟨rfl, ?_⟩
    rcases h4 with ⟨rfl, h4⟩
    have sd5 : dt 9 (((p1 * 11) + 9)).toNat = SDC (dt 9) (p1).toNat 9 := by unfold SDC; rw [show 11 * (p1).toNat + (9 : Int).toNat = (((p1 * 11) + 9)).toNat by first | with_reducible assumption | omega]
    refine go_ifq PM117 (k := 1) (p1 := 34) (p2 := 30) (L' := [some (.inr (.inr (some 0))), some (.inl p1), some (.inl p2)]) (st' := []) (w' := (SH, dt)) rfl (c_ne (a := dt 9 (((p1 * 11) + 9)).toNat) (b := 1) ⟨by omega, by omega⟩ ⟨by decide, by decide⟩) (fun c6 => ?_) (fun c6 => ?_)
    · skip
      replace c6 := hid c6
      refine go_retq PM117 (k := 1) (r := some (.inl 0)) (w1 := (SH, dt)) rfl ?_
      exact ⟨rfl, (Or.inr ⟨rfl, by intro z_; have y1_ := z_.1; have y2_ := z_.2; (first | omega | (have z0_ := unhid c6; omega))⟩)⟩
    · skip
      refine go_retq PM117 (k := 2) (r := some (.inl 1)) (w1 := (SH, dt)) rfl ?_
      exact ⟨rfl, (Or.inl ⟨rfl, by exact ⟨by omega, by omega⟩⟩)⟩
