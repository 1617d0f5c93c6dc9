theorem sp_X0_saidOf (L : Nat) (xs : Nat → Int32) (sio : Option Nat) (d : Nat) (dt : Nat → Nat → Int) (hI : InvC dt)  (p1 : Int) (h_p1 : (-2147483648) ≤ p1 ∧ p1 ≤ 2147483647) (p2 : Int) (h_p2 : (-2147483648) ≤ p2 ∧ p2 ≤ 2147483647)  : GO (am_XX L xs sio) (d + 1) 1 0 [some (.inr (.inr (some 1))), some (.inl p1), some (.inl p2), none] [] (SH, dt) (fun r w2 => w2 = (SH, dt) ∧ ((∃ v : Int, r = some (.inl v) ∧ ((-2147483648) ≤ v ∧ v ≤ 2147483647) ∧ True))) := by
  refine go_toq PM1 (k := 3) (pc' := 5) (L' := [some (.inr (.inr (some 1))), some (.inl p1), some (.inl p2), none]) (st' := [.inl p1, .inr (.inr (some 7))]) (w' := (SH, dt)) rfl ?_
  have r1 : 0 ≤ dt 7 3 ∧ dt 7 3 ≤ 12 := InvC_get hI 7 3 rfl rfl
  refine go_callq PM1 PM37 (Q' := _) rfl rfl rfl rfl (sp_X2_has_7 L xs sio (d + 0) dt hI  p1 (by first | exact h_p1 | exact bnd h_p1 (by decide) (by decide) | exact ⟨by fail, by fail⟩) ) ?_
  rintro _ _ ⟨rfl, h2⟩
  refine ⟨rfl, ?_⟩
  rcases h2 with ⟨rfl, h2⟩ | ⟨rfl, h2⟩
  · skip
    have j5 :  GO (am_XX L xs sio) (d + 1) 1 26 [some (.inr (.inr (some 1))), some (.inl p1), some (.inl p2), none] [.inl 0] (SH, dt) (fun r w2 => w2 = (SH, dt) ∧ ((∃ v : Int, r = some (.inl v) ∧ ((-2147483648) ≤ v ∧ v ≤ 2147483647) ∧ True))) := by
      skip
      refine go_retq PM1 (k := 4) (r := some (.inl (-1))) (w1 := (SH, dt)) rfl ?_
      exact ⟨rfl, ⟨_, rfl, ⟨by decide, by decide⟩, trivial⟩⟩
    refine go_ifq PM1 (k := 2) (p1 := 25) (p2 := 15) (L' := [some (.inr (.inr (some 1))), some (.inl p1), some (.inl p2), none]) (st' := []) (w' := (SH, dt)) rfl (z_lt (a := p2) (by first | exact bnd h_p2 (by decide) (by decide) | exact ⟨by fail, by fail⟩)) (fun c6 => ?_) (fun c6 => ?_)
    · skip
      refine go_toq PM1 (k := 1) (pc' := 26) (L' := [some (.inr (.inr (some 1))), some (.inl p1), some (.inl p2), none]) (st' := [.inl 0]) (w' := (SH, dt)) rfl ?_
      exact GO.le (j5 ) ⟨.inl rfl, .inl rfl, .inl rfl, .inl rfl, trivial⟩
    · skip
      refine go_ifq PM1 (k := 2) (p1 := 25) (p2 := 21) (L' := [some (.inr (.inr (some 1))), some (.inl p1), some (.inl p2), none]) (st' := []) (w' := (SH, dt)) rfl (c_ge (a := p2) (b := 11) (by first | exact bnd h_p2 (by decide) (by decide) | exact ⟨by fail, by fail⟩) ⟨by decide, by decide⟩) (fun c7 => ?_) (fun c7 => ?_)
      · skip
        refine go_toq PM1 (k := 1) (pc' := 26) (L' := [some (.inr (.inr (some 1))), some (.inl p1), some (.inl p2), none]) (st' := [.inl 0]) (w' := (SH, dt)) rfl ?_
        exact GO.le (j5 ) ⟨.inl rfl, .inl rfl, .inl rfl, .inl rfl, trivial⟩
      · skip
        refine go_toq PM1 (k := 12) (pc' := 41) (L' := [some (.inr (.inr (some 1))), some (.inl p1), some (.inl p2), some (.inl 1)]) (st' := [.inl ((p1 * 11) + p2), .inr (.inr (some 9))]) (w' := (SH, dt)) rfl ?_
        have r9 : (-2147483648) ≤ dt 9 (((p1 * 11) + p2).toNat) ∧ dt 9 (((p1 * 11) + p2).toNat) ≤ 2147483647 := InvC_get hI 9 (((p1 * 11) + p2).toNat) rfl rfl
        refine go_smpq PM1 (L' := [some (.inr (.inr (some 1))), some (.inl p1), some (.inl p2), some (.inl 1)]) (st' := [.inl (dt 9 (((p1 * 11) + p2).toNat))]) (w' := (SH, dt)) rfl rfl (s_iald (n := 132) (f := dt 9) rfl ⟨by omega, by omega⟩) ?_
        refine go_retq PM1 (k := 1) (r := some (.inl (dt 9 (((p1 * 11) + p2).toNat)))) (w1 := (SH, dt)) rfl ?_
        exact ⟨rfl, ⟨_, rfl, (by first | exact bnd r9 (by decide) (by decide) | exact ⟨by fail, by fail⟩), trivial⟩⟩
  · skip
    refine go_retq PM1 (k := 6) (r := some (.inl (-1))) (w1 := (SH, dt)) rfl ?_
    exact ⟨rfl, ⟨_, rfl, ⟨by decide, by decide⟩, trivial⟩⟩
