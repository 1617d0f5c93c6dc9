theorem sp_X5_isTelling_f (L : Nat) (xs : Nat → Int32) (sio : Option Nat) (d : Nat) (dt : Nat → Nat → Int) (hI : InvC dt)  (p1 : Int) (h_p1 : 0 ≤ p1 ∧ p1 ≤ 11) (p2 : Int) (h_p2 : 0 ≤ p2 ∧ p2 ≤ 1) (h_p0 : p1 < dt 7 3) (h_p1 : QOC (dt 8) (dt 7 3)) : GO (am_XX L xs sio) (d + 2) 117 0 [some (.inr (.inr (some 0))), some (.inl p1), some (.inl p2)] [] (SH, dt) (fun r w2 => w2 = (SH, dt) ∧ ((r = some (.inl 1) ∧ (dt 8 (5 * p1.toNat + 1) = p2 ∧ SDC (dt 9) p1.toNat 9 = 1)) ∨ (r = some (.inl 0) ∧ (¬ (dt 8 (5 * p1.toNat + 1) = p2 ∧ SDC (dt 9) p1.toNat 9 = 1))))) := by
  refine go_toq PM117 (k := 5) (pc' := 9) (L' := [some (.inr (.inr (some 0))), some (.inl p1), some (.inl p2)]) (st' := [.inl 1, .inl p1, .inr (.inr (some 7))]) (w' := (SH, dt)) rfl ?_
  refine go_callq PM117 PM39 (Q' := _) rfl rfl rfl rfl (sp_X2_at_7_1 L xs sio (d + 0) dt hI  p1 (by first | exact h_p1 | exact bnd h_p1 (by decide) (by decide) | exact ⟨by omega, by omega⟩) (by first | exact True.intro | with_reducible assumption | rfl | omega | trivial) (by first | exact True.intro | with_reducible assumption | rfl | omega | trivial)) ?_
  rintro _ _ ⟨rfl, h1⟩
  refine ⟨rfl, ?_⟩
  rcases h1 with ⟨rfl, h1⟩
  have ix2 : dt 8 (((p1 * 5) + 1)).toNat = dt 8 (5 * p1.toNat + 1) := by rw [show 5 * p1.toNat + 1 = (((p1 * 5) + 1)).toNat by first | with_reducible assumption | omega]
  refine go_ifq PM117 (k := 1) (p1 := 34) (p2 := 16) (L' := [some (.inr (.inr (some 0))), some (.inl p1), some (.inl p2)]) (st' := []) (w' := (SH, dt)) rfl (c_ne (a := dt 8 (((p1 * 5) + 1)).toNat) (b := p2) ⟨by omega, by omega⟩ (by first | exact bnd h_p2 (by decide) (by decide) | exact ⟨by omega, by omega⟩)) (fun c3 => ?_) (fun c3 => ?_)
  · skip
    replace c3 := hid c3
    refine go_retq PM117 (k := 1) (r := some (.inl 0)) (w1 := (SH, dt)) rfl ?_
    exact ⟨rfl, (Or.inr ⟨rfl, by intro z_; have y1_ := z_.1; have y2_ := z_.2; (first | omega | (have z0_ := unhid c3; omega))⟩)⟩
  · skip
    refine go_toq PM117 (k := 4) (pc' := 23) (L' := [some (.inr (.inr (some 0))), some (.inl p1), some (.inl p2)]) (st' := [.inl 9, .inl p1, .inr (.inr (some 1))]) (w' := (SH, dt)) rfl ?_
    refine go_callq PM117 PM1 (Q' := _) rfl rfl rfl rfl (sp_X0_saidOf_f L xs sio (d + 0) dt hI  p1 (by first | exact h_p1 | exact bnd h_p1 (by decide) (by decide) | exact ⟨by omega, by omega⟩) 9 ⟨by decide, by decide⟩ (by first | exact True.intro | with_reducible assumption | rfl | omega | trivial)) ?_
    rintro _ _ ⟨rfl, h4⟩
    refine ⟨rfl, ?_⟩
    rcases h4 with ⟨rfl, h4⟩
    have sd5 : dt 9 (((p1 * 11) + 9)).toNat = SDC (dt 9) (p1).toNat 9 := by unfold SDC; rw [show 11 * (p1).toNat + (9 : Int).toNat = (((p1 * 11) + 9)).toNat by first | with_reducible assumption | omega]
    refine go_ifq PM117 (k := 1) (p1 := 34) (p2 := 30) (L' := [some (.inr (.inr (some 0))), some (.inl p1), some (.inl p2)]) (st' := []) (w' := (SH, dt)) rfl (c_ne (a := dt 9 (((p1 * 11) + 9)).toNat) (b := 1) ⟨by omega, by omega⟩ ⟨by decide, by decide⟩) (fun c6 => ?_) (fun c6 => ?_)
    · skip
      replace c6 := hid c6
      refine go_retq PM117 (k := 1) (r := some (.inl 0)) (w1 := (SH, dt)) rfl ?_
      exact ⟨rfl, (Or.inr ⟨rfl, by intro z_; have y1_ := z_.1; have y2_ := z_.2; (first | omega | (have z0_ := unhid c6; omega))⟩)⟩
    · skip
      refine go_retq PM117 (k := 2) (r := some (.inl 1)) (w1 := (SH, dt)) rfl ?_
      exact ⟨rfl, (Or.inl ⟨rfl, by exact ⟨by omega, by omega⟩⟩)⟩
theorem sp_X5_isRight_f (L : Nat) (xs : Nat → Int32) (sio : Option Nat) (d : Nat) (dt : Nat → Nat → Int) (hI : InvC dt)  (p1 : Int) (h_p1 : 0 ≤ p1 ∧ p1 ≤ 299) (h_p0 : p1 < dt 12 3) (h_p1 : 0 ≤ dt 13 (6 * p1.toNat + 1) ∧ dt 13 (6 * p1.toNat + 1) < dt 7 3) : GO (am_XX L xs sio) (d + 2) 132 0 [some (.inr (.inr (some 0))), some (.inl p1)] [] (SH, dt) (fun r w2 => w2 = (SH, dt) ∧ ((r = some (.inl 1) ∧ (dt 13 (6 * p1.toNat + 3) = SDC (dt 9) (dt 13 (6 * p1.toNat + 1)).toNat 8)) ∨ (r = some (.inl 0) ∧ (¬ dt 13 (6 * p1.toNat + 3) = SDC (dt 9) (dt 13 (6 * p1.toNat + 1)).toNat 8)))) := by
  have r1 : 0 ≤ dt 7 3 ∧ dt 7 3 ≤ 12 := InvC_get hI 7 3 rfl rfl
  refine go_toq PM132 (k := 5) (pc' := 9) (L' := [some (.inr (.inr (some 0))), some (.inl p1)]) (st' := [.inl 3, .inl p1, .inr (.inr (some 12))]) (w' := (SH, dt)) rfl ?_
  refine go_callq PM132 PM39 (Q' := _) rfl rfl rfl rfl (sp_X2_at_12_3 L xs sio (d + 0) dt hI  p1 (by first | exact h_p1 | exact bnd h_p1 (by decide) (by decide) | exact ⟨by omega, by omega⟩) (by first | exact True.intro | with_reducible assumption | rfl | omega | trivial)) ?_
  rintro _ _ ⟨rfl, h2⟩
  refine ⟨rfl, ?_⟩
  rcases h2 with ⟨rfl, h2⟩
  have ix3 : dt 13 (((p1 * 6) + 3)).toNat = dt 13 (6 * p1.toNat + 3) := by rw [show 6 * p1.toNat + 3 = (((p1 * 6) + 3)).toNat by first | with_reducible assumption | omega]
  refine go_toq PM132 (k := 7) (pc' := 25) (L' := [some (.inr (.inr (some 0))), some (.inl p1)]) (st' := [.inl 1, .inl p1, .inr (.inr (some 12)), .inr (.inr (some 1)), .inl (dt 13 (((p1 * 6) + 3)).toNat)]) (w' := (SH, dt)) rfl ?_
  refine go_callq PM132 PM39 (Q' := _) rfl rfl rfl rfl (sp_X2_at_12_1 L xs sio (d + 0) dt hI  p1 (by first | exact h_p1 | exact bnd h_p1 (by decide) (by decide) | exact ⟨by omega, by omega⟩) (by first | exact True.intro | with_reducible assumption | rfl | omega | trivial)) ?_
  rintro _ _ ⟨rfl, h4⟩
  refine ⟨rfl, ?_⟩
  rcases h4 with ⟨rfl, h4⟩
  have ix5 : dt 13 (((p1 * 6) + 1)).toNat = dt 13 (6 * p1.toNat + 1) := by rw [show 6 * p1.toNat + 1 = (((p1 * 6) + 1)).toNat by first | with_reducible assumption | omega]
  refine go_toq PM132 (k := 1) (pc' := 30) (L' := [some (.inr (.inr (some 0))), some (.inl p1)]) (st' := [.inl 8, .inl (dt 13 (((p1 * 6) + 1)).toNat), .inr (.inr (some 1)), .inl (dt 13 (((p1 * 6) + 3)).toNat)]) (w' := (SH, dt)) rfl ?_
  refine go_callq PM132 PM1 (Q' := _) rfl rfl rfl rfl (sp_X0_saidOf_f L xs sio (d + 0) dt hI  (dt 13 (((p1 * 6) + 1)).toNat) ⟨by omega, by omega⟩ 8 ⟨by decide, by decide⟩ (by first | exact True.intro | with_reducible assumption | rfl | omega | trivial)) ?_
  rintro _ _ ⟨rfl, h6⟩
  refine ⟨rfl, ?_⟩
  rcases h6 with ⟨rfl, h6⟩
  have sd7 : dt 9 ((((dt 13 (((p1 * 6) + 1)).toNat) * 11) + 8)).toNat = SDC (dt 9) (dt 13 (((p1 * 6) + 1)).toNat).toNat 8 := by unfold SDC; rw [show 11 * (dt 13 (((p1 * 6) + 1)).toNat).toNat + (8 : Int).toNat = ((((dt 13 (((p1 * 6) + 1)).toNat) * 11) + 8)).toNat by first | with_reducible assumption | omega]
  have sr8 : dt 9 ((((dt 13 (((p1 * 6) + 1)).toNat) * 11) + 8)).toNat = SDC (dt 9) (dt 13 (6 * p1.toNat + 1)).toNat 8 := by rw [← ix5]; exact sd7
  refine go_ifq PM132 (k := 0) (p1 := 40) (p2 := 36) (L' := [some (.inr (.inr (some 0))), some (.inl p1)]) (st' := []) (w' := (SH, dt)) rfl (c_ne (a := dt 13 (((p1 * 6) + 3)).toNat) (b := dt 9 ((((dt 13 (((p1 * 6) + 1)).toNat) * 11) + 8)).toNat) ⟨by omega, by omega⟩ ⟨by omega, by omega⟩) (fun c9 => ?_) (fun c9 => ?_)
  · skip
    replace c9 := hid c9
    refine go_retq PM132 (k := 1) (r := some (.inl 0)) (w1 := (SH, dt)) rfl ?_
    exact ⟨rfl, (Or.inr ⟨rfl, by first | exact True.intro | with_reducible assumption | exact unhid (by with_reducible assumption) | rfl | (first | omega | (have z0_ := unhid c9; omega)) | trivial⟩)⟩
  · skip
    refine go_retq PM132 (k := 2) (r := some (.inl 1)) (w1 := (SH, dt)) rfl ?_
    exact ⟨rfl, (Or.inl ⟨rfl, by first | exact True.intro | with_reducible assumption | rfl | omega | trivial⟩)⟩
theorem sp_X5_lastRight_f (L : Nat) (xs : Nat → Int32) (sio : Option Nat) (d : Nat) (dt : Nat → Nat → Int) (hI : InvC dt)  (p1 : Int) (h_p1 : 0 ≤ p1 ∧ p1 ≤ 39) (p2 : Int) (h_p2 : 0 ≤ p2 ∧ p2 ≤ 1) (h_p0 : ∀ i : Nat, (i : Int) < dt 12 3 → 0 ≤ dt 13 (6 * i + 1) ∧ dt 13 (6 * i + 1) < dt 7 3) (h_p1 : QOC (dt 8) (dt 7 3)) : GO (am_XX L xs sio) (d + 3) 131 0 [some (.inr (.inr (some 0))), some (.inl p1), some (.inl p2), none, none] [] (SH, dt) (fun r w2 => w2 = (SH, dt) ∧ ((r = some (.inl 1) ∧ (LST (GRT (SDC (dt 9)) (fun q => dt 8 (5 * q + 1)) (fun i c => dt 13 (6 * i + c)) p1 p2) (dt 12 3).toNat = 1)) ∨ (r = some (.inl 0) ∧ (LST (GRT (SDC (dt 9)) (fun q => dt 8 (5 * q + 1)) (fun i c => dt 13 (6 * i + c)) p1 p2) (dt 12 3).toNat = 0)) ∨ (r = some (.inl (-1)) ∧ (LST (GRT (SDC (dt 9)) (fun q => dt 8 (5 * q + 1)) (fun i c => dt 13 (6 * i + c)) p1 p2) (dt 12 3).toNat = -1)))) := by
  have r1 : 0 ≤ dt 12 3 ∧ dt 12 3 ≤ 300 := InvC_get hI 12 3 rfl rfl
  have r2 : 0 ≤ dt 7 3 ∧ dt 7 3 ≤ 12 := InvC_get hI 7 3 rfl rfl
  refine go_toq PM131 (k := 7) (pc' := 13) (L' := [some (.inr (.inr (some 0))), some (.inl p1), some (.inl p2), some (.inl ((dt 12 3) - 1)), none]) (st' := []) (w' := (SH, dt)) rfl ?_
  have loop16 : ∀ (k_ : Nat) (l13_3 : Int) (i13 : (-1) ≤ l13_3 ∧ l13_3 ≤ 299) (i14 : LST (GRT (SDC (dt 9)) (fun q => dt 8 (5 * q + 1)) (fun i c => dt 13 (6 * i + c)) p1 p2) (dt 12 3).toNat = LST (GRT (SDC (dt 9)) (fun q => dt 8 (5 * q + 1)) (fun i c => dt 13 (6 * i + c)) p1 p2) (l13_3 + 1).toNat) (i15 : l13_3 < dt 12 3), (l13_3 + 1).toNat < k_ → GO (am_XX L xs sio) (d + 3) 131 13 [some (.inr (.inr (some 0))), some (.inl p1), some (.inl p2), some (.inl l13_3), none] [] (SH, dt) (fun r w2 => w2 = (SH, dt) ∧ ((r = some (.inl 1) ∧ (LST (GRT (SDC (dt 9)) (fun q => dt 8 (5 * q + 1)) (fun i c => dt 13 (6 * i + c)) p1 p2) (dt 12 3).toNat = 1)) ∨ (r = some (.inl 0) ∧ (LST (GRT (SDC (dt 9)) (fun q => dt 8 (5 * q + 1)) (fun i c => dt 13 (6 * i + c)) p1 p2) (dt 12 3).toNat = 0)) ∨ (r = some (.inl (-1)) ∧ (LST (GRT (SDC (dt 9)) (fun q => dt 8 (5 * q + 1)) (fun i c => dt 13 (6 * i + c)) p1 p2) (dt 12 3).toNat = -1)))) := by
    intro k_
    induction k_ with
    | zero => intro l13_3 i13 i14 i15 hm; exact absurd hm (Nat.not_lt_zero _)
    | succ k_ ih_loop16 =>
      intro l13_3 i13 i14 i15 hm
      have qL := i14
      refine go_ifq PM131 (k := 1) (p1 := 77) (p2 := 17) (L' := [some (.inr (.inr (some 0))), some (.inl p1), some (.inl p2), some (.inl l13_3), none]) (st' := []) (w' := (SH, dt)) rfl (z_lt (a := l13_3) (by first | exact bnd i13 (by decide) (by decide) | exact ⟨by omega, by omega⟩)) (fun c17 => ?_) (fun c17 => ?_)
      · skip
        refine go_retq PM131 (k := 1) (r := some (.inl (-1))) (w1 := (SH, dt)) rfl ?_
        exact ⟨rfl, (Or.inr (Or.inr ⟨rfl, by exact (LST_e qL (by omega)).symm⟩))⟩
      · skip
        refine go_toq PM131 (k := 5) (pc' := 26) (L' := [some (.inr (.inr (some 0))), some (.inl p1), some (.inl p2), some (.inl l13_3), none]) (st' := [.inl 1, .inl l13_3, .inr (.inr (some 12))]) (w' := (SH, dt)) rfl ?_
        refine go_callq PM131 PM39 (Q' := _) rfl rfl rfl rfl (sp_X2_at_12_1 L xs sio (d + 1) dt hI  l13_3 (by first | exact bnd i13 (by decide) (by decide) | exact ⟨by omega, by omega⟩) (by first | exact True.intro | with_reducible assumption | rfl | omega | trivial)) ?_
        rintro _ _ ⟨rfl, h18⟩
        refine ⟨rfl, ?_⟩
        rcases h18 with ⟨rfl, h18⟩
        have ix19 : dt 13 (((l13_3 * 6) + 1)).toNat = dt 13 (6 * l13_3.toNat + 1) := by rw [show 6 * l13_3.toNat + 1 = (((l13_3 * 6) + 1)).toNat by first | with_reducible assumption | omega]
        have hq_ := h_p0 l13_3.toNat (by omega)
        refine go_toq PM131 (k := 6) (pc' := 40) (L' := [some (.inr (.inr (some 0))), some (.inl p1), some (.inl p2), some (.inl l13_3), some (.inl (dt 13 (((l13_3 * 6) + 1)).toNat))]) (st' := [.inl 0, .inl l13_3, .inr (.inr (some 12))]) (w' := (SH, dt)) rfl ?_
        refine go_callq PM131 PM39 (Q' := _) rfl rfl rfl rfl (sp_X2_at_12_0 L xs sio (d + 1) dt hI  l13_3 (by first | exact bnd i13 (by decide) (by decide) | exact ⟨by omega, by omega⟩) (by first | exact True.intro | with_reducible assumption | rfl | omega | trivial)) ?_
        rintro _ _ ⟨rfl, h20⟩
        refine ⟨rfl, ?_⟩
        rcases h20 with ⟨rfl, h20⟩
        have ix21 : dt 13 (((l13_3 * 6) + 0)).toNat = dt 13 (6 * l13_3.toNat + 0) := by rw [show 6 * l13_3.toNat + 0 = (((l13_3 * 6) + 0)).toNat by first | with_reducible assumption | omega]
        refine go_ifq PM131 (k := 1) (p1 := 71) (p2 := 47) (L' := [some (.inr (.inr (some 0))), some (.inl p1), some (.inl p2), some (.inl l13_3), some (.inl (dt 13 (((l13_3 * 6) + 1)).toNat))]) (st' := []) (w' := (SH, dt)) rfl (c_ne (a := dt 13 (((l13_3 * 6) + 0)).toNat) (b := p1) ⟨by omega, by omega⟩ (by first | exact bnd h_p1 (by decide) (by decide) | exact ⟨by omega, by omega⟩)) (fun c22 => ?_) (fun c22 => ?_)
        · skip
          replace c22 := hid c22
          refine go_toq PM131 (k := 2) (pc' := 13) (L' := [some (.inr (.inr (some 0))), some (.inl p1), some (.inl p2), some (.inl (l13_3 + (-1))), some (.inl (dt 13 (((l13_3 * 6) + 1)).toNat))]) (st' := []) (w' := (SH, dt)) rfl ?_
          exact GO.le (ih_loop16 (l13_3 + (-1)) (by first | (first | omega | (have z0_ := unhid c22; omega)) | (congr 1; (first | omega | (have z0_ := unhid c22; omega))) | exact LST_d qL (by (first | omega | (have z0_ := unhid c22; omega))) (GRT_n0 (by show ¬ dt 13 (6 * l13_3.toNat + 0) = p1; (first | omega | (have z0_ := unhid c22; omega)))) (by (first | omega | (have z0_ := unhid c22; omega))) | exact LST_d qL (by (first | omega | (have z0_ := unhid c22; omega))) (GRT_n1 hI) (by (first | omega | (have z0_ := unhid c22; omega)))) (by first | (first | omega | (have z0_ := unhid c22; omega)) | (congr 1; (first | omega | (have z0_ := unhid c22; omega))) | exact LST_d qL (by (first | omega | (have z0_ := unhid c22; omega))) (GRT_n0 (by show ¬ dt 13 (6 * l13_3.toNat + 0) = p1; (first | omega | (have z0_ := unhid c22; omega)))) (by (first | omega | (have z0_ := unhid c22; omega))) | exact LST_d qL (by (first | omega | (have z0_ := unhid c22; omega))) (GRT_n1 hI) (by (first | omega | (have z0_ := unhid c22; omega)))) (by first | (first | omega | (have z0_ := unhid c22; omega)) | (congr 1; (first | omega | (have z0_ := unhid c22; omega))) | exact LST_d qL (by (first | omega | (have z0_ := unhid c22; omega))) (GRT_n0 (by show ¬ dt 13 (6 * l13_3.toNat + 0) = p1; (first | omega | (have z0_ := unhid c22; omega)))) (by (first | omega | (have z0_ := unhid c22; omega))) | exact LST_d qL (by (first | omega | (have z0_ := unhid c22; omega))) (GRT_n1 hI) (by (first | omega | (have z0_ := unhid c22; omega)))) (by (first | omega | (have z0_ := unhid c22; omega)))) ⟨.inl rfl, .inl rfl, .inl rfl, .inl rfl, .inr ⟨rfl, trivial⟩, trivial⟩
        · skip
          refine go_toq PM131 (k := 3) (pc' := 51) (L' := [some (.inr (.inr (some 0))), some (.inl p1), some (.inl p2), some (.inl l13_3), some (.inl (dt 13 (((l13_3 * 6) + 1)).toNat))]) (st' := [.inl p2, .inl (dt 13 (((l13_3 * 6) + 1)).toNat), .inr (.inr (some 0))]) (w' := (SH, dt)) rfl ?_
          refine go_callq PM131 PM117 (Q' := _) rfl rfl rfl rfl (sp_X5_isTelling_f L xs sio (d + 0) dt hI  (dt 13 (((l13_3 * 6) + 1)).toNat) ⟨by omega, by omega⟩ p2 (by first | exact h_p2 | exact bnd h_p2 (by decide) (by decide) | exact ⟨by omega, by omega⟩) (by first | exact True.intro | with_reducible assumption | rfl | omega | trivial) (by first | exact True.intro | with_reducible assumption | rfl | omega | trivial)) ?_
          rintro _ _ ⟨rfl, h23⟩
          refine ⟨rfl, ?_⟩
          rcases h23 with ⟨rfl, h23⟩ | ⟨rfl, h23⟩
          · skip
            have te24 := h23
            rw [ix19] at te24
            refine go_toq PM131 (k := 3) (pc' := 59) (L' := [some (.inr (.inr (some 0))), some (.inl p1), some (.inl p2), some (.inl l13_3), some (.inl (dt 13 (((l13_3 * 6) + 1)).toNat))]) (st' := [.inl l13_3, .inr (.inr (some 0))]) (w' := (SH, dt)) rfl ?_
            refine go_callq PM131 PM132 (Q' := _) rfl rfl rfl rfl (sp_X5_isRight_f L xs sio (d + 0) dt hI  l13_3 (by first | exact bnd i13 (by decide) (by decide) | exact ⟨by omega, by omega⟩) (by first | exact True.intro | with_reducible assumption | rfl | omega | trivial) (by first | exact True.intro | with_reducible assumption | rfl | omega | trivial)) ?_
            rintro _ _ ⟨rfl, h25⟩
            refine ⟨rfl, ?_⟩
            rcases h25 with ⟨rfl, h25⟩ | ⟨rfl, h25⟩
            · skip
              refine go_retq PM131 (k := 3) (r := some (.inl 1)) (w1 := (SH, dt)) rfl ?_
              exact ⟨rfl, (Or.inl ⟨rfl, by exact (LST_h qL (by omega) (GRT_1 (by show dt 13 (6 * l13_3.toNat + 0) = p1; omega) te24 h25) (by decide)).symm⟩)⟩
            · skip
              refine go_retq PM131 (k := 2) (r := some (.inl 0)) (w1 := (SH, dt)) rfl ?_
              exact ⟨rfl, (Or.inr (Or.inl ⟨rfl, by exact (LST_h qL (by omega) (GRT_0 (by show dt 13 (6 * l13_3.toNat + 0) = p1; omega) te24 h25) (by decide)).symm⟩))⟩
          · skip
            have te26 := h23
            rw [ix19] at te26
            refine go_toq PM131 (k := 3) (pc' := 13) (L' := [some (.inr (.inr (some 0))), some (.inl p1), some (.inl p2), some (.inl (l13_3 + (-1))), some (.inl (dt 13 (((l13_3 * 6) + 1)).toNat))]) (st' := []) (w' := (SH, dt)) rfl ?_
            exact GO.le (ih_loop16 (l13_3 + (-1)) (by first | omega | (congr 1; omega) | exact LST_d qL (by omega) (GRT_n0 (by show ¬ dt 13 (6 * l13_3.toNat + 0) = p1; omega)) (by omega) | exact LST_d qL (by omega) (GRT_n1 te26) (by omega)) (by first | omega | (congr 1; omega) | exact LST_d qL (by omega) (GRT_n0 (by show ¬ dt 13 (6 * l13_3.toNat + 0) = p1; omega)) (by omega) | exact LST_d qL (by omega) (GRT_n1 te26) (by omega)) (by first | omega | (congr 1; omega) | exact LST_d qL (by omega) (GRT_n0 (by show ¬ dt 13 (6 * l13_3.toNat + 0) = p1; omega)) (by omega) | exact LST_d qL (by omega) (GRT_n1 te26) (by omega)) (by omega)) ⟨.inl rfl, .inl rfl, .inl rfl, .inl rfl, .inr ⟨rfl, trivial⟩, trivial⟩
  exact GO.le (loop16 _ ((dt 12 3) - 1) (by first | omega | (congr 1; omega) | exact LST_d qL (by omega) (GRT_n0 (by show ¬ dt 13 (6 * l13_3.toNat + 0) = p1; omega)) (by omega) | exact LST_d qL (by omega) (GRT_n1 hI) (by omega)) (by first | omega | (congr 1; omega) | exact LST_d qL (by omega) (GRT_n0 (by show ¬ dt 13 (6 * l13_3.toNat + 0) = p1; omega)) (by omega) | exact LST_d qL (by omega) (GRT_n1 hI) (by omega)) (by first | omega | (congr 1; omega) | exact LST_d qL (by omega) (GRT_n0 (by show ¬ dt 13 (6 * l13_3.toNat + 0) = p1; omega)) (by omega) | exact LST_d qL (by omega) (GRT_n1 hI) (by omega)) (Nat.lt_succ_self _)) ⟨.inl rfl, .inl rfl, .inl rfl, .inl rfl, .inl rfl, trivial⟩
