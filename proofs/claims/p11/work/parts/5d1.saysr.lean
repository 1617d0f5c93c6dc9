set_option maxRecDepth 20000 in
theorem sp_X6_saysNow_f (L : Nat) (xs : Nat → Int32) (sio : Option Nat) (d : Nat) (dt : Nat → Nat → Int) (hI : InvC dt) (hM : MW (dt 80))  (p1 : Int) (h_p1 : 0 ≤ p1 ∧ p1 ≤ 11) (p2 : Int) (h_p2 : 0 ≤ p2 ∧ p2 ≤ 7)  : GO (am_XX L xs sio) (d + 1) 194 0 [some (.inr (.inr (some 79))), some (.inl p1), some (.inl p2), none, none, none] [] (SH, dt) (fun r w2 => w2 = (SH, dt) ∧ ((∃ v : Int, r = some (.inl v) ∧ ((-2147483648) ≤ v ∧ v ≤ 2147483647) ∧ (v = RUL (VR dt) (dt 80 (5320 + 5 * p1.toNat + 1)) (dt 80 (5320 + 5 * p1.toNat + 2)) (dt 80 (5320 + 5 * p1.toNat + 3)) (dt 80 (5320 + 5 * p1.toNat + 4)) p2)))) := by
  have hq_ := MW_q hM p1 ⟨by omega, by omega⟩
  have hk_ : 0 ≤ dt 80 (((5320 + (5 * p1)) + 1)).toNat ∧ dt 80 (((5320 + (5 * p1)) + 1)).toNat ≤ 1 := by omega
  have ex_ : ((3 * (dt 80 (((5320 + (5 * p1)) + 2)).toNat)) + (dt 80 (((5320 + (5 * p1)) + 3)).toNat)).toNat = 3 * (dt 80 (((5320 + (5 * p1)) + 2)).toNat).toNat + (dt 80 (((5320 + (5 * p1)) + 3)).toNat).toNat := by omega
  have ev_ : 0 ≤ dt 80 (((5320 + (5 * p1)) + 4)).toNat → ((3 * (dt 80 (((5320 + (5 * p1)) + 4)).toNat)) + (dt 80 (((5320 + (5 * p1)) + 3)).toNat)).toNat = 3 * (dt 80 (((5320 + (5 * p1)) + 4)).toNat).toNat + (dt 80 (((5320 + (5 * p1)) + 3)).toNat).toNat := by omega
  have ew_ : 0 ≤ dt 80 (((5320 + (5 * p1)) + 4)).toNat → (((12 * (dt 80 (((5320 + (5 * p1)) + 4)).toNat)) + (3 * (dt 80 (((5320 + (5 * p1)) + 2)).toNat))) + (dt 80 (((5320 + (5 * p1)) + 3)).toNat)).toNat = 12 * (dt 80 (((5320 + (5 * p1)) + 4)).toNat).toNat + 3 * (dt 80 (((5320 + (5 * p1)) + 2)).toNat).toNat + (dt 80 (((5320 + (5 * p1)) + 3)).toNat).toNat := by omega
  have v3_ : VR dt 3 (dt 80 (((5320 + (5 * p1)) + 3)).toNat).toNat = dt 92 (dt 80 (((5320 + (5 * p1)) + 3)).toNat).toNat := VR_r (f := 3) (by decide) (show (dt 80 (((5320 + (5 * p1)) + 3)).toNat).toNat < 3 by omega)
  have v4_ : VR dt 4 (dt 80 (((5320 + (5 * p1)) + 3)).toNat).toNat = dt 94 (dt 80 (((5320 + (5 * p1)) + 3)).toNat).toNat := VR_r (f := 4) (by decide) (show (dt 80 (((5320 + (5 * p1)) + 3)).toNat).toNat < 3 by omega)
  have v5_ : VR dt 5 (dt 80 (((5320 + (5 * p1)) + 3)).toNat).toNat = dt 95 (dt 80 (((5320 + (5 * p1)) + 3)).toNat).toNat := VR_r (f := 5) (by decide) (show (dt 80 (((5320 + (5 * p1)) + 3)).toNat).toNat < 3 by omega)
  have v8_ : VR dt 8 ((3 * (dt 80 (((5320 + (5 * p1)) + 2)).toNat)) + (dt 80 (((5320 + (5 * p1)) + 3)).toNat)).toNat = dt 96 ((3 * (dt 80 (((5320 + (5 * p1)) + 2)).toNat)) + (dt 80 (((5320 + (5 * p1)) + 3)).toNat)).toNat := VR_r (f := 8) (by decide) (show ((3 * (dt 80 (((5320 + (5 * p1)) + 2)).toNat)) + (dt 80 (((5320 + (5 * p1)) + 3)).toNat)).toNat < 12 by omega)
  have v9_ : VR dt 9 ((3 * (dt 80 (((5320 + (5 * p1)) + 2)).toNat)) + (dt 80 (((5320 + (5 * p1)) + 3)).toNat)).toNat = dt 97 ((3 * (dt 80 (((5320 + (5 * p1)) + 2)).toNat)) + (dt 80 (((5320 + (5 * p1)) + 3)).toNat)).toNat := VR_r (f := 9) (by decide) (show ((3 * (dt 80 (((5320 + (5 * p1)) + 2)).toNat)) + (dt 80 (((5320 + (5 * p1)) + 3)).toNat)).toNat < 12 by omega)
  have v10_ : VR dt 10 ((3 * (dt 80 (((5320 + (5 * p1)) + 2)).toNat)) + (dt 80 (((5320 + (5 * p1)) + 3)).toNat)).toNat = dt 98 ((3 * (dt 80 (((5320 + (5 * p1)) + 2)).toNat)) + (dt 80 (((5320 + (5 * p1)) + 3)).toNat)).toNat := VR_r (f := 10) (by decide) (show ((3 * (dt 80 (((5320 + (5 * p1)) + 2)).toNat)) + (dt 80 (((5320 + (5 * p1)) + 3)).toNat)).toNat < 12 by omega)
  have v11_ : VR dt 11 ((3 * (dt 80 (((5320 + (5 * p1)) + 2)).toNat)) + (dt 80 (((5320 + (5 * p1)) + 3)).toNat)).toNat = dt 90 ((3 * (dt 80 (((5320 + (5 * p1)) + 2)).toNat)) + (dt 80 (((5320 + (5 * p1)) + 3)).toNat)).toNat := VR_r (f := 11) (by decide) (show ((3 * (dt 80 (((5320 + (5 * p1)) + 2)).toNat)) + (dt 80 (((5320 + (5 * p1)) + 3)).toNat)).toNat < 12 by omega)
  have v7_ : dt 80 (((5320 + (5 * p1)) + 1)).toNat = 1 → VR dt 7 ((3 * (dt 80 (((5320 + (5 * p1)) + 2)).toNat)) + (dt 80 (((5320 + (5 * p1)) + 3)).toNat)).toNat = dt 100 ((3 * (dt 80 (((5320 + (5 * p1)) + 2)).toNat)) + (dt 80 (((5320 + (5 * p1)) + 3)).toNat)).toNat := fun z_ => VR_r (f := 7) (by decide) (show ((3 * (dt 80 (((5320 + (5 * p1)) + 2)).toNat)) + (dt 80 (((5320 + (5 * p1)) + 3)).toNat)).toNat < 6 by omega)
  have v8v_ : (dt 80 (((5320 + (5 * p1)) + 1)).toNat = 0 ∧ 0 ≤ dt 80 (((5320 + (5 * p1)) + 4)).toNat) → VR dt 8 ((3 * (dt 80 (((5320 + (5 * p1)) + 4)).toNat)) + (dt 80 (((5320 + (5 * p1)) + 3)).toNat)).toNat = dt 96 ((3 * (dt 80 (((5320 + (5 * p1)) + 4)).toNat)) + (dt 80 (((5320 + (5 * p1)) + 3)).toNat)).toNat := fun z_ => VR_r (f := 8) (by decide) (show ((3 * (dt 80 (((5320 + (5 * p1)) + 4)).toNat)) + (dt 80 (((5320 + (5 * p1)) + 3)).toNat)).toNat < 12 by omega)
  have v12_ : (dt 80 (((5320 + (5 * p1)) + 1)).toNat = 0 ∧ 0 ≤ dt 80 (((5320 + (5 * p1)) + 4)).toNat) → VR dt 12 (((12 * (dt 80 (((5320 + (5 * p1)) + 4)).toNat)) + (3 * (dt 80 (((5320 + (5 * p1)) + 2)).toNat))) + (dt 80 (((5320 + (5 * p1)) + 3)).toNat)).toNat = dt 99 (((12 * (dt 80 (((5320 + (5 * p1)) + 4)).toNat)) + (3 * (dt 80 (((5320 + (5 * p1)) + 2)).toNat))) + (dt 80 (((5320 + (5 * p1)) + 3)).toNat)).toNat := fun z_ => VR_r (f := 12) (by decide) (show (((12 * (dt 80 (((5320 + (5 * p1)) + 4)).toNat)) + (3 * (dt 80 (((5320 + (5 * p1)) + 2)).toNat))) + (dt 80 (((5320 + (5 * p1)) + 3)).toNat)).toNat < 48 by omega)
  refine go_toq PM194 (k := 3) (pc' := 3) (L' := [some (.inr (.inr (some 79))), some (.inl p1), some (.inl p2), none, none, none]) (st' := [.inl 2, .inl p1, .inr (.inr (some 79))]) (w' := (SH, dt)) rfl ?_
  refine go_callq PM194 PM191 (Q' := _) rfl rfl rfl rfl (sp_X6_asked_2 L xs sio (d + 0) dt hI hM  p1 (by first | exact h_p1 | exact bnd h_p1 (by decide) (by decide) | exact ⟨by omega, by omega⟩) ) ?_
  rintro _ _ ⟨rfl, h1⟩
  refine ⟨rfl, ?_⟩
  rcases h1 with ⟨rfl, h1⟩
  refine go_toq PM194 (k := 4) (pc' := 10) (L' := [some (.inr (.inr (some 79))), some (.inl p1), some (.inl p2), some (.inl (dt 80 (((5320 + (5 * p1)) + 2)).toNat)), none, none]) (st' := [.inl 3, .inl p1, .inr (.inr (some 79))]) (w' := (SH, dt)) rfl ?_
  refine go_callq PM194 PM191 (Q' := _) rfl rfl rfl rfl (sp_X6_asked_3 L xs sio (d + 0) dt hI hM  p1 (by first | exact h_p1 | exact bnd h_p1 (by decide) (by decide) | exact ⟨by omega, by omega⟩) ) ?_
  rintro _ _ ⟨rfl, h2⟩
  refine ⟨rfl, ?_⟩
  rcases h2 with ⟨rfl, h2⟩
  refine go_toq PM194 (k := 4) (pc' := 18) (L' := [some (.inr (.inr (some 79))), some (.inl p1), some (.inl p2), some (.inl (dt 80 (((5320 + (5 * p1)) + 2)).toNat)), some (.inl (dt 80 (((5320 + (5 * p1)) + 3)).toNat)), none]) (st' := [.inl 4, .inl p1, .inr (.inr (some 79))]) (w' := (SH, dt)) rfl ?_
  refine go_callq PM194 PM191 (Q' := _) rfl rfl rfl rfl (sp_X6_asked_4 L xs sio (d + 0) dt hI hM  p1 (by first | exact h_p1 | exact bnd h_p1 (by decide) (by decide) | exact ⟨by omega, by omega⟩) ) ?_
  rintro _ _ ⟨rfl, h3⟩
  refine ⟨rfl, ?_⟩
  rcases h3 with ⟨rfl, h3⟩
  refine go_toq PM194 (k := 4) (pc' := 26) (L' := [some (.inr (.inr (some 79))), some (.inl p1), some (.inl p2), some (.inl (dt 80 (((5320 + (5 * p1)) + 2)).toNat)), some (.inl (dt 80 (((5320 + (5 * p1)) + 3)).toNat)), some (.inl (dt 80 (((5320 + (5 * p1)) + 4)).toNat))]) (st' := [.inl 1, .inl p1, .inr (.inr (some 79))]) (w' := (SH, dt)) rfl ?_
  refine go_callq PM194 PM191 (Q' := _) rfl rfl rfl rfl (sp_X6_asked_1 L xs sio (d + 0) dt hI hM  p1 (by first | exact h_p1 | exact bnd h_p1 (by decide) (by decide) | exact ⟨by omega, by omega⟩) ) ?_
  rintro _ _ ⟨rfl, h4⟩
  refine ⟨rfl, ?_⟩
  rcases h4 with ⟨rfl, h4⟩
  refine go_ifq PM194 (k := 1) (p1 := 95) (p2 := 33) (L' := [some (.inr (.inr (some 79))), some (.inl p1), some (.inl p2), some (.inl (dt 80 (((5320 + (5 * p1)) + 2)).toNat)), some (.inl (dt 80 (((5320 + (5 * p1)) + 3)).toNat)), some (.inl (dt 80 (((5320 + (5 * p1)) + 4)).toNat))]) (st' := []) (w' := (SH, dt)) rfl (c_ne (a := dt 80 (((5320 + (5 * p1)) + 1)).toNat) (b := 1) (by first | exact bnd hk_ (by decide) (by decide) | exact ⟨by omega, by omega⟩) ⟨by decide, by decide⟩) (fun c5 => ?_) (fun c5 => ?_)
  · skip
    have r6 := wr_RR p2
    refine go_toq PM194 (k := 1) (pc' := 96) (L' := [some (.inr (.inr (some 79))), some (.inl p1), some (.inl p2), some (.inl (dt 80 (((5320 + (5 * p1)) + 2)).toNat)), some (.inl (dt 80 (((5320 + (5 * p1)) + 3)).toNat)), some (.inl (dt 80 (((5320 + (5 * p1)) + 4)).toNat))]) (st' := [.inl p2]) (w' := (SH, dt)) rfl ?_
    have e8 : wr p2 = p2 := wr_R ⟨by omega, by omega⟩
    by_cases c7 : wr p2 < 0 ∨ 6 < wr p2
    · refine go_swoq PM194 (p1 := 283) (lo := 0) (hi := 6) rfl rfl c7 ?_
      refine go_toq PM194 (k := 3) (pc' := 289) (L' := [some (.inr (.inr (some 79))), some (.inl p1), some (.inl p2), some (.inl (dt 80 (((5320 + (5 * p1)) + 2)).toNat)), some (.inl (dt 80 (((5320 + (5 * p1)) + 3)).toNat)), some (.inl (dt 80 (((5320 + (5 * p1)) + 4)).toNat))]) (st' := [.inl (dt 80 (((5320 + (5 * p1)) + 3)).toNat), .inr (.inr (some 95))]) (w' := (SH, dt)) rfl ?_
      have r9 : (-2147483648) ≤ dt 95 ((dt 80 (((5320 + (5 * p1)) + 3)).toNat).toNat) ∧ dt 95 ((dt 80 (((5320 + (5 * p1)) + 3)).toNat).toNat) ≤ 2147483647 := InvC_get hI 95 ((dt 80 (((5320 + (5 * p1)) + 3)).toNat).toNat) rfl rfl
      refine go_smpq PM194 (L' := [some (.inr (.inr (some 79))), some (.inl p1), some (.inl p2), some (.inl (dt 80 (((5320 + (5 * p1)) + 2)).toNat)), some (.inl (dt 80 (((5320 + (5 * p1)) + 3)).toNat)), some (.inl (dt 80 (((5320 + (5 * p1)) + 4)).toNat))]) (st' := [.inl (dt 95 ((dt 80 (((5320 + (5 * p1)) + 3)).toNat).toNat))]) (w' := (SH, dt)) rfl rfl (s_iald (n := 3) (f := dt 95) rfl ⟨by omega, by omega⟩) ?_
      refine go_retq PM194 (k := 0) (r := some (.inl (dt 95 ((dt 80 (((5320 + (5 * p1)) + 3)).toNat).toNat)))) (w1 := (SH, dt)) rfl ?_
      exact ⟨rfl, ⟨_, rfl, (by first | exact bnd r9 (by decide) (by decide) | exact ⟨by omega, by omega⟩), by rw [show 5320 + 5 * p1.toNat + 1 = (((5320 + (5 * p1)) + 1)).toNat by omega, show 5320 + 5 * p1.toNat + 2 = (((5320 + (5 * p1)) + 2)).toNat by omega, show 5320 + 5 * p1.toNat + 3 = (((5320 + (5 * p1)) + 3)).toNat by omega, show 5320 + 5 * p1.toNat + 4 = (((5320 + (5 * p1)) + 4)).toNat by omega]; unfold RUL; rw [← ex_]; (repeat (first | rw [if_pos (by omega)] | rw [if_neg (by omega)])); first | omega | (rw [← ev_ (by omega)]; omega) | (rw [← ew_ (by omega)]; omega)⟩⟩
    · have c10 : wr p2 = 0 ∨ wr p2 = 1 ∨ wr p2 = 2 ∨ wr p2 = 3 ∨ wr p2 = 4 ∨ wr p2 = 5 ∨ wr p2 = 6 := by omega
      rcases c10 with c10 | c10 | c10 | c10 | c10 | c10 | c10
      · refine go_swiq PM194 (v := 0) (p1 := 140) (lo := 0) (hi := 6) rfl c10 (by decide) rfl ?_
        refine go_toq PM194 (k := 3) (pc' := 146) (L' := [some (.inr (.inr (some 79))), some (.inl p1), some (.inl p2), some (.inl (dt 80 (((5320 + (5 * p1)) + 2)).toNat)), some (.inl (dt 80 (((5320 + (5 * p1)) + 3)).toNat)), some (.inl (dt 80 (((5320 + (5 * p1)) + 4)).toNat))]) (st' := [.inl (dt 80 (((5320 + (5 * p1)) + 3)).toNat), .inr (.inr (some 92))]) (w' := (SH, dt)) rfl ?_
        have r11 : (-2147483648) ≤ dt 92 ((dt 80 (((5320 + (5 * p1)) + 3)).toNat).toNat) ∧ dt 92 ((dt 80 (((5320 + (5 * p1)) + 3)).toNat).toNat) ≤ 2147483647 := InvC_get hI 92 ((dt 80 (((5320 + (5 * p1)) + 3)).toNat).toNat) rfl rfl
        refine go_smpq PM194 (L' := [some (.inr (.inr (some 79))), some (.inl p1), some (.inl p2), some (.inl (dt 80 (((5320 + (5 * p1)) + 2)).toNat)), some (.inl (dt 80 (((5320 + (5 * p1)) + 3)).toNat)), some (.inl (dt 80 (((5320 + (5 * p1)) + 4)).toNat))]) (st' := [.inl (dt 92 ((dt 80 (((5320 + (5 * p1)) + 3)).toNat).toNat))]) (w' := (SH, dt)) rfl rfl (s_iald (n := 3) (f := dt 92) rfl ⟨by omega, by omega⟩) ?_
        refine go_retq PM194 (k := 0) (r := some (.inl (dt 92 ((dt 80 (((5320 + (5 * p1)) + 3)).toNat).toNat)))) (w1 := (SH, dt)) rfl ?_
        exact ⟨rfl, ⟨_, rfl, (by first | exact bnd r11 (by decide) (by decide) | exact ⟨by omega, by omega⟩), by rw [show 5320 + 5 * p1.toNat + 1 = (((5320 + (5 * p1)) + 1)).toNat by omega, show 5320 + 5 * p1.toNat + 2 = (((5320 + (5 * p1)) + 2)).toNat by omega, show 5320 + 5 * p1.toNat + 3 = (((5320 + (5 * p1)) + 3)).toNat by omega, show 5320 + 5 * p1.toNat + 4 = (((5320 + (5 * p1)) + 4)).toNat by omega]; unfold RUL; rw [← ex_]; (repeat (first | rw [if_pos (by omega)] | rw [if_neg (by omega)])); first | omega | (rw [← ev_ (by omega)]; omega) | (rw [← ew_ (by omega)]; omega)⟩⟩
      · refine go_swiq PM194 (v := 1) (p1 := 148) (lo := 0) (hi := 6) rfl c10 (by decide) rfl ?_
        refine go_toq PM194 (k := 7) (pc' := 158) (L' := [some (.inr (.inr (some 79))), some (.inl p1), some (.inl p2), some (.inl (dt 80 (((5320 + (5 * p1)) + 2)).toNat)), some (.inl (dt 80 (((5320 + (5 * p1)) + 3)).toNat)), some (.inl (dt 80 (((5320 + (5 * p1)) + 4)).toNat))]) (st' := [.inl ((3 * (dt 80 (((5320 + (5 * p1)) + 2)).toNat)) + (dt 80 (((5320 + (5 * p1)) + 3)).toNat)), .inr (.inr (some 96))]) (w' := (SH, dt)) rfl ?_
        have r12 : (-2147483648) ≤ dt 96 (((3 * (dt 80 (((5320 + (5 * p1)) + 2)).toNat)) + (dt 80 (((5320 + (5 * p1)) + 3)).toNat)).toNat) ∧ dt 96 (((3 * (dt 80 (((5320 + (5 * p1)) + 2)).toNat)) + (dt 80 (((5320 + (5 * p1)) + 3)).toNat)).toNat) ≤ 2147483647 := InvC_get hI 96 (((3 * (dt 80 (((5320 + (5 * p1)) + 2)).toNat)) + (dt 80 (((5320 + (5 * p1)) + 3)).toNat)).toNat) rfl rfl
        refine go_smpq PM194 (L' := [some (.inr (.inr (some 79))), some (.inl p1), some (.inl p2), some (.inl (dt 80 (((5320 + (5 * p1)) + 2)).toNat)), some (.inl (dt 80 (((5320 + (5 * p1)) + 3)).toNat)), some (.inl (dt 80 (((5320 + (5 * p1)) + 4)).toNat))]) (st' := [.inl (dt 96 (((3 * (dt 80 (((5320 + (5 * p1)) + 2)).toNat)) + (dt 80 (((5320 + (5 * p1)) + 3)).toNat)).toNat))]) (w' := (SH, dt)) rfl rfl (s_iald (n := 12) (f := dt 96) rfl ⟨by omega, by omega⟩) ?_
        refine go_retq PM194 (k := 0) (r := some (.inl (dt 96 (((3 * (dt 80 (((5320 + (5 * p1)) + 2)).toNat)) + (dt 80 (((5320 + (5 * p1)) + 3)).toNat)).toNat)))) (w1 := (SH, dt)) rfl ?_
        exact ⟨rfl, ⟨_, rfl, (by first | exact bnd r12 (by decide) (by decide) | exact ⟨by omega, by omega⟩), by rw [show 5320 + 5 * p1.toNat + 1 = (((5320 + (5 * p1)) + 1)).toNat by omega, show 5320 + 5 * p1.toNat + 2 = (((5320 + (5 * p1)) + 2)).toNat by omega, show 5320 + 5 * p1.toNat + 3 = (((5320 + (5 * p1)) + 3)).toNat by omega, show 5320 + 5 * p1.toNat + 4 = (((5320 + (5 * p1)) + 4)).toNat by omega]; unfold RUL; rw [← ex_]; (repeat (first | rw [if_pos (by omega)] | rw [if_neg (by omega)])); first | omega | (rw [← ev_ (by omega)]; omega) | (rw [← ew_ (by omega)]; omega)⟩⟩
      · refine go_swiq PM194 (v := 2) (p1 := 160) (lo := 0) (hi := 6) rfl c10 (by decide) rfl ?_
        refine go_toq PM194 (k := 7) (pc' := 170) (L' := [some (.inr (.inr (some 79))), some (.inl p1), some (.inl p2), some (.inl (dt 80 (((5320 + (5 * p1)) + 2)).toNat)), some (.inl (dt 80 (((5320 + (5 * p1)) + 3)).toNat)), some (.inl (dt 80 (((5320 + (5 * p1)) + 4)).toNat))]) (st' := [.inl ((3 * (dt 80 (((5320 + (5 * p1)) + 2)).toNat)) + (dt 80 (((5320 + (5 * p1)) + 3)).toNat)), .inr (.inr (some 97))]) (w' := (SH, dt)) rfl ?_
        have r13 : (-2147483648) ≤ dt 97 (((3 * (dt 80 (((5320 + (5 * p1)) + 2)).toNat)) + (dt 80 (((5320 + (5 * p1)) + 3)).toNat)).toNat) ∧ dt 97 (((3 * (dt 80 (((5320 + (5 * p1)) + 2)).toNat)) + (dt 80 (((5320 + (5 * p1)) + 3)).toNat)).toNat) ≤ 2147483647 := InvC_get hI 97 (((3 * (dt 80 (((5320 + (5 * p1)) + 2)).toNat)) + (dt 80 (((5320 + (5 * p1)) + 3)).toNat)).toNat) rfl rfl
        refine go_smpq PM194 (L' := [some (.inr (.inr (some 79))), some (.inl p1), some (.inl p2), some (.inl (dt 80 (((5320 + (5 * p1)) + 2)).toNat)), some (.inl (dt 80 (((5320 + (5 * p1)) + 3)).toNat)), some (.inl (dt 80 (((5320 + (5 * p1)) + 4)).toNat))]) (st' := [.inl (dt 97 (((3 * (dt 80 (((5320 + (5 * p1)) + 2)).toNat)) + (dt 80 (((5320 + (5 * p1)) + 3)).toNat)).toNat))]) (w' := (SH, dt)) rfl rfl (s_iald (n := 12) (f := dt 97) rfl ⟨by omega, by omega⟩) ?_
        refine go_retq PM194 (k := 0) (r := some (.inl (dt 97 (((3 * (dt 80 (((5320 + (5 * p1)) + 2)).toNat)) + (dt 80 (((5320 + (5 * p1)) + 3)).toNat)).toNat)))) (w1 := (SH, dt)) rfl ?_
        exact ⟨rfl, ⟨_, rfl, (by first | exact bnd r13 (by decide) (by decide) | exact ⟨by omega, by omega⟩), by rw [show 5320 + 5 * p1.toNat + 1 = (((5320 + (5 * p1)) + 1)).toNat by omega, show 5320 + 5 * p1.toNat + 2 = (((5320 + (5 * p1)) + 2)).toNat by omega, show 5320 + 5 * p1.toNat + 3 = (((5320 + (5 * p1)) + 3)).toNat by omega, show 5320 + 5 * p1.toNat + 4 = (((5320 + (5 * p1)) + 4)).toNat by omega]; unfold RUL; rw [← ex_]; (repeat (first | rw [if_pos (by omega)] | rw [if_neg (by omega)])); first | omega | (rw [← ev_ (by omega)]; omega) | (rw [← ew_ (by omega)]; omega)⟩⟩
      · refine go_swiq PM194 (v := 3) (p1 := 172) (lo := 0) (hi := 6) rfl c10 (by decide) rfl ?_
        refine go_toq PM194 (k := 7) (pc' := 182) (L' := [some (.inr (.inr (some 79))), some (.inl p1), some (.inl p2), some (.inl (dt 80 (((5320 + (5 * p1)) + 2)).toNat)), some (.inl (dt 80 (((5320 + (5 * p1)) + 3)).toNat)), some (.inl (dt 80 (((5320 + (5 * p1)) + 4)).toNat))]) (st' := [.inl ((3 * (dt 80 (((5320 + (5 * p1)) + 2)).toNat)) + (dt 80 (((5320 + (5 * p1)) + 3)).toNat)), .inr (.inr (some 98))]) (w' := (SH, dt)) rfl ?_
        have r14 : (-2147483648) ≤ dt 98 (((3 * (dt 80 (((5320 + (5 * p1)) + 2)).toNat)) + (dt 80 (((5320 + (5 * p1)) + 3)).toNat)).toNat) ∧ dt 98 (((3 * (dt 80 (((5320 + (5 * p1)) + 2)).toNat)) + (dt 80 (((5320 + (5 * p1)) + 3)).toNat)).toNat) ≤ 2147483647 := InvC_get hI 98 (((3 * (dt 80 (((5320 + (5 * p1)) + 2)).toNat)) + (dt 80 (((5320 + (5 * p1)) + 3)).toNat)).toNat) rfl rfl
        refine go_smpq PM194 (L' := [some (.inr (.inr (some 79))), some (.inl p1), some (.inl p2), some (.inl (dt 80 (((5320 + (5 * p1)) + 2)).toNat)), some (.inl (dt 80 (((5320 + (5 * p1)) + 3)).toNat)), some (.inl (dt 80 (((5320 + (5 * p1)) + 4)).toNat))]) (st' := [.inl (dt 98 (((3 * (dt 80 (((5320 + (5 * p1)) + 2)).toNat)) + (dt 80 (((5320 + (5 * p1)) + 3)).toNat)).toNat))]) (w' := (SH, dt)) rfl rfl (s_iald (n := 12) (f := dt 98) rfl ⟨by omega, by omega⟩) ?_
        refine go_retq PM194 (k := 0) (r := some (.inl (dt 98 (((3 * (dt 80 (((5320 + (5 * p1)) + 2)).toNat)) + (dt 80 (((5320 + (5 * p1)) + 3)).toNat)).toNat)))) (w1 := (SH, dt)) rfl ?_
        exact ⟨rfl, ⟨_, rfl, (by first | exact bnd r14 (by decide) (by decide) | exact ⟨by omega, by omega⟩), by rw [show 5320 + 5 * p1.toNat + 1 = (((5320 + (5 * p1)) + 1)).toNat by omega, show 5320 + 5 * p1.toNat + 2 = (((5320 + (5 * p1)) + 2)).toNat by omega, show 5320 + 5 * p1.toNat + 3 = (((5320 + (5 * p1)) + 3)).toNat by omega, show 5320 + 5 * p1.toNat + 4 = (((5320 + (5 * p1)) + 4)).toNat by omega]; unfold RUL; rw [← ex_]; (repeat (first | rw [if_pos (by omega)] | rw [if_neg (by omega)])); first | omega | (rw [← ev_ (by omega)]; omega) | (rw [← ew_ (by omega)]; omega)⟩⟩
      · refine go_swiq PM194 (v := 4) (p1 := 184) (lo := 0) (hi := 6) rfl c10 (by decide) rfl ?_
        refine go_toq PM194 (k := 7) (pc' := 194) (L' := [some (.inr (.inr (some 79))), some (.inl p1), some (.inl p2), some (.inl (dt 80 (((5320 + (5 * p1)) + 2)).toNat)), some (.inl (dt 80 (((5320 + (5 * p1)) + 3)).toNat)), some (.inl (dt 80 (((5320 + (5 * p1)) + 4)).toNat))]) (st' := [.inl ((3 * (dt 80 (((5320 + (5 * p1)) + 2)).toNat)) + (dt 80 (((5320 + (5 * p1)) + 3)).toNat)), .inr (.inr (some 90))]) (w' := (SH, dt)) rfl ?_
        have r15 : 0 ≤ dt 90 (((3 * (dt 80 (((5320 + (5 * p1)) + 2)).toNat)) + (dt 80 (((5320 + (5 * p1)) + 3)).toNat)).toNat) ∧ dt 90 (((3 * (dt 80 (((5320 + (5 * p1)) + 2)).toNat)) + (dt 80 (((5320 + (5 * p1)) + 3)).toNat)).toNat) ≤ 1 := InvC_get hI 90 (((3 * (dt 80 (((5320 + (5 * p1)) + 2)).toNat)) + (dt 80 (((5320 + (5 * p1)) + 3)).toNat)).toNat) rfl rfl
        refine go_smpq PM194 (L' := [some (.inr (.inr (some 79))), some (.inl p1), some (.inl p2), some (.inl (dt 80 (((5320 + (5 * p1)) + 2)).toNat)), some (.inl (dt 80 (((5320 + (5 * p1)) + 3)).toNat)), some (.inl (dt 80 (((5320 + (5 * p1)) + 4)).toNat))]) (st' := [.inl (dt 90 (((3 * (dt 80 (((5320 + (5 * p1)) + 2)).toNat)) + (dt 80 (((5320 + (5 * p1)) + 3)).toNat)).toNat))]) (w' := (SH, dt)) rfl rfl (s_zald (n := 12) (f := dt 90) rfl ⟨by omega, by omega⟩) ?_
        refine go_ifq PM194 (k := 0) (p1 := 208) (p2 := 198) (L' := [some (.inr (.inr (some 79))), some (.inl p1), some (.inl p2), some (.inl (dt 80 (((5320 + (5 * p1)) + 2)).toNat)), some (.inl (dt 80 (((5320 + (5 * p1)) + 3)).toNat)), some (.inl (dt 80 (((5320 + (5 * p1)) + 4)).toNat))]) (st' := []) (w' := (SH, dt)) rfl (z_eq (a := dt 90 (((3 * (dt 80 (((5320 + (5 * p1)) + 2)).toNat)) + (dt 80 (((5320 + (5 * p1)) + 3)).toNat)).toNat)) (by first | exact bnd r15 (by decide) (by decide) | exact ⟨by omega, by omega⟩)) (fun c16 => ?_) (fun c16 => ?_)
        · skip
          refine go_toq PM194 (k := 3) (pc' := 214) (L' := [some (.inr (.inr (some 79))), some (.inl p1), some (.inl p2), some (.inl (dt 80 (((5320 + (5 * p1)) + 2)).toNat)), some (.inl (dt 80 (((5320 + (5 * p1)) + 3)).toNat)), some (.inl (dt 80 (((5320 + (5 * p1)) + 4)).toNat))]) (st' := [.inl (dt 80 (((5320 + (5 * p1)) + 3)).toNat), .inr (.inr (some 94))]) (w' := (SH, dt)) rfl ?_
          have r17 : (-2147483648) ≤ dt 94 ((dt 80 (((5320 + (5 * p1)) + 3)).toNat).toNat) ∧ dt 94 ((dt 80 (((5320 + (5 * p1)) + 3)).toNat).toNat) ≤ 2147483647 := InvC_get hI 94 ((dt 80 (((5320 + (5 * p1)) + 3)).toNat).toNat) rfl rfl
          refine go_smpq PM194 (L' := [some (.inr (.inr (some 79))), some (.inl p1), some (.inl p2), some (.inl (dt 80 (((5320 + (5 * p1)) + 2)).toNat)), some (.inl (dt 80 (((5320 + (5 * p1)) + 3)).toNat)), some (.inl (dt 80 (((5320 + (5 * p1)) + 4)).toNat))]) (st' := [.inl (dt 94 ((dt 80 (((5320 + (5 * p1)) + 3)).toNat).toNat))]) (w' := (SH, dt)) rfl rfl (s_iald (n := 3) (f := dt 94) rfl ⟨by omega, by omega⟩) ?_
          refine go_retq PM194 (k := 0) (r := some (.inl (dt 94 ((dt 80 (((5320 + (5 * p1)) + 3)).toNat).toNat)))) (w1 := (SH, dt)) rfl ?_
          exact ⟨rfl, ⟨_, rfl, (by first | exact bnd r17 (by decide) (by decide) | exact ⟨by omega, by omega⟩), by rw [show 5320 + 5 * p1.toNat + 1 = (((5320 + (5 * p1)) + 1)).toNat by omega, show 5320 + 5 * p1.toNat + 2 = (((5320 + (5 * p1)) + 2)).toNat by omega, show 5320 + 5 * p1.toNat + 3 = (((5320 + (5 * p1)) + 3)).toNat by omega, show 5320 + 5 * p1.toNat + 4 = (((5320 + (5 * p1)) + 4)).toNat by omega]; unfold RUL; rw [← ex_]; (repeat (first | rw [if_pos (by omega)] | rw [if_neg (by omega)])); first | omega | (rw [← ev_ (by omega)]; omega) | (rw [← ew_ (by omega)]; omega)⟩⟩
        · skip
          refine go_toq PM194 (k := 3) (pc' := 204) (L' := [some (.inr (.inr (some 79))), some (.inl p1), some (.inl p2), some (.inl (dt 80 (((5320 + (5 * p1)) + 2)).toNat)), some (.inl (dt 80 (((5320 + (5 * p1)) + 3)).toNat)), some (.inl (dt 80 (((5320 + (5 * p1)) + 4)).toNat))]) (st' := [.inl (dt 80 (((5320 + (5 * p1)) + 3)).toNat), .inr (.inr (some 92))]) (w' := (SH, dt)) rfl ?_
          have r18 : (-2147483648) ≤ dt 92 ((dt 80 (((5320 + (5 * p1)) + 3)).toNat).toNat) ∧ dt 92 ((dt 80 (((5320 + (5 * p1)) + 3)).toNat).toNat) ≤ 2147483647 := InvC_get hI 92 ((dt 80 (((5320 + (5 * p1)) + 3)).toNat).toNat) rfl rfl
          refine go_smpq PM194 (L' := [some (.inr (.inr (some 79))), some (.inl p1), some (.inl p2), some (.inl (dt 80 (((5320 + (5 * p1)) + 2)).toNat)), some (.inl (dt 80 (((5320 + (5 * p1)) + 3)).toNat)), some (.inl (dt 80 (((5320 + (5 * p1)) + 4)).toNat))]) (st' := [.inl (dt 92 ((dt 80 (((5320 + (5 * p1)) + 3)).toNat).toNat))]) (w' := (SH, dt)) rfl rfl (s_iald (n := 3) (f := dt 92) rfl ⟨by omega, by omega⟩) ?_
          refine go_retq PM194 (k := 1) (r := some (.inl (dt 92 ((dt 80 (((5320 + (5 * p1)) + 3)).toNat).toNat)))) (w1 := (SH, dt)) rfl ?_
          exact ⟨rfl, ⟨_, rfl, (by first | exact bnd r18 (by decide) (by decide) | exact ⟨by omega, by omega⟩), by rw [show 5320 + 5 * p1.toNat + 1 = (((5320 + (5 * p1)) + 1)).toNat by omega, show 5320 + 5 * p1.toNat + 2 = (((5320 + (5 * p1)) + 2)).toNat by omega, show 5320 + 5 * p1.toNat + 3 = (((5320 + (5 * p1)) + 3)).toNat by omega, show 5320 + 5 * p1.toNat + 4 = (((5320 + (5 * p1)) + 4)).toNat by omega]; unfold RUL; rw [← ex_]; (repeat (first | rw [if_pos (by omega)] | rw [if_neg (by omega)])); first | omega | (rw [← ev_ (by omega)]; omega) | (rw [← ew_ (by omega)]; omega)⟩⟩
      · refine go_swiq PM194 (v := 5) (p1 := 216) (lo := 0) (hi := 6) rfl c10 (by decide) rfl ?_
        refine go_ifq PM194 (k := 2) (p1 := 232) (p2 := 222) (L' := [some (.inr (.inr (some 79))), some (.inl p1), some (.inl p2), some (.inl (dt 80 (((5320 + (5 * p1)) + 2)).toNat)), some (.inl (dt 80 (((5320 + (5 * p1)) + 3)).toNat)), some (.inl (dt 80 (((5320 + (5 * p1)) + 4)).toNat))]) (st' := []) (w' := (SH, dt)) rfl (c_ne (a := dt 80 (((5320 + (5 * p1)) + 4)).toNat) (b := (-1)) ⟨by omega, by omega⟩ ⟨by decide, by decide⟩) (fun c19 => ?_) (fun c19 => ?_)
        · skip
          refine go_toq PM194 (k := 7) (pc' := 243) (L' := [some (.inr (.inr (some 79))), some (.inl p1), some (.inl p2), some (.inl (dt 80 (((5320 + (5 * p1)) + 2)).toNat)), some (.inl (dt 80 (((5320 + (5 * p1)) + 3)).toNat)), some (.inl (dt 80 (((5320 + (5 * p1)) + 4)).toNat))]) (st' := [.inl ((3 * (dt 80 (((5320 + (5 * p1)) + 4)).toNat)) + (dt 80 (((5320 + (5 * p1)) + 3)).toNat)), .inr (.inr (some 96))]) (w' := (SH, dt)) rfl ?_
          have r20 : (-2147483648) ≤ dt 96 (((3 * (dt 80 (((5320 + (5 * p1)) + 4)).toNat)) + (dt 80 (((5320 + (5 * p1)) + 3)).toNat)).toNat) ∧ dt 96 (((3 * (dt 80 (((5320 + (5 * p1)) + 4)).toNat)) + (dt 80 (((5320 + (5 * p1)) + 3)).toNat)).toNat) ≤ 2147483647 := InvC_get hI 96 (((3 * (dt 80 (((5320 + (5 * p1)) + 4)).toNat)) + (dt 80 (((5320 + (5 * p1)) + 3)).toNat)).toNat) rfl rfl
          refine go_smpq PM194 (L' := [some (.inr (.inr (some 79))), some (.inl p1), some (.inl p2), some (.inl (dt 80 (((5320 + (5 * p1)) + 2)).toNat)), some (.inl (dt 80 (((5320 + (5 * p1)) + 3)).toNat)), some (.inl (dt 80 (((5320 + (5 * p1)) + 4)).toNat))]) (st' := [.inl (dt 96 (((3 * (dt 80 (((5320 + (5 * p1)) + 4)).toNat)) + (dt 80 (((5320 + (5 * p1)) + 3)).toNat)).toNat))]) (w' := (SH, dt)) rfl rfl (s_iald (n := 12) (f := dt 96) rfl ⟨by omega, by omega⟩) ?_
          refine go_retq PM194 (k := 0) (r := some (.inl (dt 96 (((3 * (dt 80 (((5320 + (5 * p1)) + 4)).toNat)) + (dt 80 (((5320 + (5 * p1)) + 3)).toNat)).toNat)))) (w1 := (SH, dt)) rfl ?_
          exact ⟨rfl, ⟨_, rfl, (by first | exact bnd r20 (by decide) (by decide) | exact ⟨by omega, by omega⟩), by rw [show 5320 + 5 * p1.toNat + 1 = (((5320 + (5 * p1)) + 1)).toNat by omega, show 5320 + 5 * p1.toNat + 2 = (((5320 + (5 * p1)) + 2)).toNat by omega, show 5320 + 5 * p1.toNat + 3 = (((5320 + (5 * p1)) + 3)).toNat by omega, show 5320 + 5 * p1.toNat + 4 = (((5320 + (5 * p1)) + 4)).toNat by omega]; unfold RUL; rw [← ex_]; (repeat (first | rw [if_pos (by omega)] | rw [if_neg (by omega)])); first | omega | (rw [← ev_ (by omega)]; omega) | (rw [← ew_ (by omega)]; omega)⟩⟩
        · skip
          refine go_toq PM194 (k := 3) (pc' := 228) (L' := [some (.inr (.inr (some 79))), some (.inl p1), some (.inl p2), some (.inl (dt 80 (((5320 + (5 * p1)) + 2)).toNat)), some (.inl (dt 80 (((5320 + (5 * p1)) + 3)).toNat)), some (.inl (dt 80 (((5320 + (5 * p1)) + 4)).toNat))]) (st' := [.inl (dt 80 (((5320 + (5 * p1)) + 3)).toNat), .inr (.inr (some 92))]) (w' := (SH, dt)) rfl ?_
          have r21 : (-2147483648) ≤ dt 92 ((dt 80 (((5320 + (5 * p1)) + 3)).toNat).toNat) ∧ dt 92 ((dt 80 (((5320 + (5 * p1)) + 3)).toNat).toNat) ≤ 2147483647 := InvC_get hI 92 ((dt 80 (((5320 + (5 * p1)) + 3)).toNat).toNat) rfl rfl
          refine go_smpq PM194 (L' := [some (.inr (.inr (some 79))), some (.inl p1), some (.inl p2), some (.inl (dt 80 (((5320 + (5 * p1)) + 2)).toNat)), some (.inl (dt 80 (((5320 + (5 * p1)) + 3)).toNat)), some (.inl (dt 80 (((5320 + (5 * p1)) + 4)).toNat))]) (st' := [.inl (dt 92 ((dt 80 (((5320 + (5 * p1)) + 3)).toNat).toNat))]) (w' := (SH, dt)) rfl rfl (s_iald (n := 3) (f := dt 92) rfl ⟨by omega, by omega⟩) ?_
          refine go_retq PM194 (k := 1) (r := some (.inl (dt 92 ((dt 80 (((5320 + (5 * p1)) + 3)).toNat).toNat)))) (w1 := (SH, dt)) rfl ?_
          exact ⟨rfl, ⟨_, rfl, (by first | exact bnd r21 (by decide) (by decide) | exact ⟨by omega, by omega⟩), by rw [show 5320 + 5 * p1.toNat + 1 = (((5320 + (5 * p1)) + 1)).toNat by omega, show 5320 + 5 * p1.toNat + 2 = (((5320 + (5 * p1)) + 2)).toNat by omega, show 5320 + 5 * p1.toNat + 3 = (((5320 + (5 * p1)) + 3)).toNat by omega, show 5320 + 5 * p1.toNat + 4 = (((5320 + (5 * p1)) + 4)).toNat by omega]; unfold RUL; rw [← ex_]; (repeat (first | rw [if_pos (by omega)] | rw [if_neg (by omega)])); first | omega | (rw [← ev_ (by omega)]; omega) | (rw [← ew_ (by omega)]; omega)⟩⟩
      · refine go_swiq PM194 (v := 6) (p1 := 245) (lo := 0) (hi := 6) rfl c10 (by decide) rfl ?_
        refine go_ifq PM194 (k := 2) (p1 := 265) (p2 := 251) (L' := [some (.inr (.inr (some 79))), some (.inl p1), some (.inl p2), some (.inl (dt 80 (((5320 + (5 * p1)) + 2)).toNat)), some (.inl (dt 80 (((5320 + (5 * p1)) + 3)).toNat)), some (.inl (dt 80 (((5320 + (5 * p1)) + 4)).toNat))]) (st' := []) (w' := (SH, dt)) rfl (c_ne (a := dt 80 (((5320 + (5 * p1)) + 4)).toNat) (b := (-1)) ⟨by omega, by omega⟩ ⟨by decide, by decide⟩) (fun c22 => ?_) (fun c22 => ?_)
        · skip
          refine go_toq PM194 (k := 11) (pc' := 281) (L' := [some (.inr (.inr (some 79))), some (.inl p1), some (.inl p2), some (.inl (dt 80 (((5320 + (5 * p1)) + 2)).toNat)), some (.inl (dt 80 (((5320 + (5 * p1)) + 3)).toNat)), some (.inl (dt 80 (((5320 + (5 * p1)) + 4)).toNat))]) (st' := [.inl (((12 * (dt 80 (((5320 + (5 * p1)) + 4)).toNat)) + (3 * (dt 80 (((5320 + (5 * p1)) + 2)).toNat))) + (dt 80 (((5320 + (5 * p1)) + 3)).toNat)), .inr (.inr (some 99))]) (w' := (SH, dt)) rfl ?_
          have r23 : (-2147483648) ≤ dt 99 ((((12 * (dt 80 (((5320 + (5 * p1)) + 4)).toNat)) + (3 * (dt 80 (((5320 + (5 * p1)) + 2)).toNat))) + (dt 80 (((5320 + (5 * p1)) + 3)).toNat)).toNat) ∧ dt 99 ((((12 * (dt 80 (((5320 + (5 * p1)) + 4)).toNat)) + (3 * (dt 80 (((5320 + (5 * p1)) + 2)).toNat))) + (dt 80 (((5320 + (5 * p1)) + 3)).toNat)).toNat) ≤ 2147483647 := InvC_get hI 99 ((((12 * (dt 80 (((5320 + (5 * p1)) + 4)).toNat)) + (3 * (dt 80 (((5320 + (5 * p1)) + 2)).toNat))) + (dt 80 (((5320 + (5 * p1)) + 3)).toNat)).toNat) rfl rfl
          refine go_smpq PM194 (L' := [some (.inr (.inr (some 79))), some (.inl p1), some (.inl p2), some (.inl (dt 80 (((5320 + (5 * p1)) + 2)).toNat)), some (.inl (dt 80 (((5320 + (5 * p1)) + 3)).toNat)), some (.inl (dt 80 (((5320 + (5 * p1)) + 4)).toNat))]) (st' := [.inl (dt 99 ((((12 * (dt 80 (((5320 + (5 * p1)) + 4)).toNat)) + (3 * (dt 80 (((5320 + (5 * p1)) + 2)).toNat))) + (dt 80 (((5320 + (5 * p1)) + 3)).toNat)).toNat))]) (w' := (SH, dt)) rfl rfl (s_iald (n := 48) (f := dt 99) rfl ⟨by omega, by omega⟩) ?_
          refine go_retq PM194 (k := 0) (r := some (.inl (dt 99 ((((12 * (dt 80 (((5320 + (5 * p1)) + 4)).toNat)) + (3 * (dt 80 (((5320 + (5 * p1)) + 2)).toNat))) + (dt 80 (((5320 + (5 * p1)) + 3)).toNat)).toNat)))) (w1 := (SH, dt)) rfl ?_
          exact ⟨rfl, ⟨_, rfl, (by first | exact bnd r23 (by decide) (by decide) | exact ⟨by omega, by omega⟩), by rw [show 5320 + 5 * p1.toNat + 1 = (((5320 + (5 * p1)) + 1)).toNat by omega, show 5320 + 5 * p1.toNat + 2 = (((5320 + (5 * p1)) + 2)).toNat by omega, show 5320 + 5 * p1.toNat + 3 = (((5320 + (5 * p1)) + 3)).toNat by omega, show 5320 + 5 * p1.toNat + 4 = (((5320 + (5 * p1)) + 4)).toNat by omega]; unfold RUL; rw [← ex_]; (repeat (first | rw [if_pos (by omega)] | rw [if_neg (by omega)])); first | omega | (rw [← ev_ (by omega)]; omega) | (rw [← ew_ (by omega)]; omega)⟩⟩
        · skip
          refine go_toq PM194 (k := 7) (pc' := 261) (L' := [some (.inr (.inr (some 79))), some (.inl p1), some (.inl p2), some (.inl (dt 80 (((5320 + (5 * p1)) + 2)).toNat)), some (.inl (dt 80 (((5320 + (5 * p1)) + 3)).toNat)), some (.inl (dt 80 (((5320 + (5 * p1)) + 4)).toNat))]) (st' := [.inl ((3 * (dt 80 (((5320 + (5 * p1)) + 2)).toNat)) + (dt 80 (((5320 + (5 * p1)) + 3)).toNat)), .inr (.inr (some 96))]) (w' := (SH, dt)) rfl ?_
          have r24 : (-2147483648) ≤ dt 96 (((3 * (dt 80 (((5320 + (5 * p1)) + 2)).toNat)) + (dt 80 (((5320 + (5 * p1)) + 3)).toNat)).toNat) ∧ dt 96 (((3 * (dt 80 (((5320 + (5 * p1)) + 2)).toNat)) + (dt 80 (((5320 + (5 * p1)) + 3)).toNat)).toNat) ≤ 2147483647 := InvC_get hI 96 (((3 * (dt 80 (((5320 + (5 * p1)) + 2)).toNat)) + (dt 80 (((5320 + (5 * p1)) + 3)).toNat)).toNat) rfl rfl
          refine go_smpq PM194 (L' := [some (.inr (.inr (some 79))), some (.inl p1), some (.inl p2), some (.inl (dt 80 (((5320 + (5 * p1)) + 2)).toNat)), some (.inl (dt 80 (((5320 + (5 * p1)) + 3)).toNat)), some (.inl (dt 80 (((5320 + (5 * p1)) + 4)).toNat))]) (st' := [.inl (dt 96 (((3 * (dt 80 (((5320 + (5 * p1)) + 2)).toNat)) + (dt 80 (((5320 + (5 * p1)) + 3)).toNat)).toNat))]) (w' := (SH, dt)) rfl rfl (s_iald (n := 12) (f := dt 96) rfl ⟨by omega, by omega⟩) ?_
          refine go_retq PM194 (k := 1) (r := some (.inl (dt 96 (((3 * (dt 80 (((5320 + (5 * p1)) + 2)).toNat)) + (dt 80 (((5320 + (5 * p1)) + 3)).toNat)).toNat)))) (w1 := (SH, dt)) rfl ?_
          exact ⟨rfl, ⟨_, rfl, (by first | exact bnd r24 (by decide) (by decide) | exact ⟨by omega, by omega⟩), by rw [show 5320 + 5 * p1.toNat + 1 = (((5320 + (5 * p1)) + 1)).toNat by omega, show 5320 + 5 * p1.toNat + 2 = (((5320 + (5 * p1)) + 2)).toNat by omega, show 5320 + 5 * p1.toNat + 3 = (((5320 + (5 * p1)) + 3)).toNat by omega, show 5320 + 5 * p1.toNat + 4 = (((5320 + (5 * p1)) + 4)).toNat by omega]; unfold RUL; rw [← ex_]; (repeat (first | rw [if_pos (by omega)] | rw [if_neg (by omega)])); first | omega | (rw [← ev_ (by omega)]; omega) | (rw [← ew_ (by omega)]; omega)⟩⟩
  · skip
    refine go_ifq PM194 (k := 1) (p1 := 42) (p2 := 37) (L' := [some (.inr (.inr (some 79))), some (.inl p1), some (.inl p2), some (.inl (dt 80 (((5320 + (5 * p1)) + 2)).toNat)), some (.inl (dt 80 (((5320 + (5 * p1)) + 3)).toNat)), some (.inl (dt 80 (((5320 + (5 * p1)) + 4)).toNat))]) (st' := []) (w' := (SH, dt)) rfl (z_eq (a := p2) (by first | exact bnd h_p2 (by decide) (by decide) | exact ⟨by omega, by omega⟩)) (fun c25 => ?_) (fun c25 => ?_)
    · skip
      refine go_toq PM194 (k := 3) (pc' := 48) (L' := [some (.inr (.inr (some 79))), some (.inl p1), some (.inl p2), some (.inl (dt 80 (((5320 + (5 * p1)) + 2)).toNat)), some (.inl (dt 80 (((5320 + (5 * p1)) + 3)).toNat)), some (.inl (dt 80 (((5320 + (5 * p1)) + 4)).toNat))]) (st' := [.inl (dt 80 (((5320 + (5 * p1)) + 3)).toNat), .inr (.inr (some 92))]) (w' := (SH, dt)) rfl ?_
      have r26 : (-2147483648) ≤ dt 92 ((dt 80 (((5320 + (5 * p1)) + 3)).toNat).toNat) ∧ dt 92 ((dt 80 (((5320 + (5 * p1)) + 3)).toNat).toNat) ≤ 2147483647 := InvC_get hI 92 ((dt 80 (((5320 + (5 * p1)) + 3)).toNat).toNat) rfl rfl
      refine go_smpq PM194 (L' := [some (.inr (.inr (some 79))), some (.inl p1), some (.inl p2), some (.inl (dt 80 (((5320 + (5 * p1)) + 2)).toNat)), some (.inl (dt 80 (((5320 + (5 * p1)) + 3)).toNat)), some (.inl (dt 80 (((5320 + (5 * p1)) + 4)).toNat))]) (st' := [.inl (dt 92 ((dt 80 (((5320 + (5 * p1)) + 3)).toNat).toNat))]) (w' := (SH, dt)) rfl rfl (s_iald (n := 3) (f := dt 92) rfl ⟨by omega, by omega⟩) ?_
      refine go_retq PM194 (k := 1) (r := some (.inl (dt 92 ((dt 80 (((5320 + (5 * p1)) + 3)).toNat).toNat)))) (w1 := (SH, dt)) rfl ?_
      exact ⟨rfl, ⟨_, rfl, (by first | exact bnd r26 (by decide) (by decide) | exact ⟨by omega, by omega⟩), by rw [show 5320 + 5 * p1.toNat + 1 = (((5320 + (5 * p1)) + 1)).toNat by omega, show 5320 + 5 * p1.toNat + 2 = (((5320 + (5 * p1)) + 2)).toNat by omega, show 5320 + 5 * p1.toNat + 3 = (((5320 + (5 * p1)) + 3)).toNat by omega, show 5320 + 5 * p1.toNat + 4 = (((5320 + (5 * p1)) + 4)).toNat by omega]; unfold RUL; rw [← ex_]; (repeat (first | rw [if_pos (by omega)] | rw [if_neg (by omega)])); first | omega | (rw [← ev_ (by omega)]; omega) | (rw [← ew_ (by omega)]; omega)⟩⟩
    · skip
      refine go_ifq PM194 (k := 2) (p1 := 52) (p2 := 42) (L' := [some (.inr (.inr (some 79))), some (.inl p1), some (.inl p2), some (.inl (dt 80 (((5320 + (5 * p1)) + 2)).toNat)), some (.inl (dt 80 (((5320 + (5 * p1)) + 3)).toNat)), some (.inl (dt 80 (((5320 + (5 * p1)) + 4)).toNat))]) (st' := []) (w' := (SH, dt)) rfl (c_ne (a := p2) (b := 5) (by first | exact bnd h_p2 (by decide) (by decide) | exact ⟨by omega, by omega⟩) ⟨by decide, by decide⟩) (fun c27 => ?_) (fun c27 => ?_)
      · skip
        refine go_ifq PM194 (k := 2) (p1 := 67) (p2 := 57) (L' := [some (.inr (.inr (some 79))), some (.inl p1), some (.inl p2), some (.inl (dt 80 (((5320 + (5 * p1)) + 2)).toNat)), some (.inl (dt 80 (((5320 + (5 * p1)) + 3)).toNat)), some (.inl (dt 80 (((5320 + (5 * p1)) + 4)).toNat))]) (st' := []) (w' := (SH, dt)) rfl (c_ne (a := p2) (b := 4) (by first | exact bnd h_p2 (by decide) (by decide) | exact ⟨by omega, by omega⟩) ⟨by decide, by decide⟩) (fun c28 => ?_) (fun c28 => ?_)
        · skip
          refine go_ifq PM194 (k := 2) (p1 := 83) (p2 := 73) (L' := [some (.inr (.inr (some 79))), some (.inl p1), some (.inl p2), some (.inl (dt 80 (((5320 + (5 * p1)) + 2)).toNat)), some (.inl (dt 80 (((5320 + (5 * p1)) + 3)).toNat)), some (.inl (dt 80 (((5320 + (5 * p1)) + 4)).toNat))]) (st' := []) (w' := (SH, dt)) rfl (c_ne (a := p2) (b := 7) (by first | exact bnd h_p2 (by decide) (by decide) | exact ⟨by omega, by omega⟩) ⟨by decide, by decide⟩) (fun c29 => ?_) (fun c29 => ?_)
          · skip
            refine go_toq PM194 (k := 7) (pc' := 93) (L' := [some (.inr (.inr (some 79))), some (.inl p1), some (.inl p2), some (.inl (dt 80 (((5320 + (5 * p1)) + 2)).toNat)), some (.inl (dt 80 (((5320 + (5 * p1)) + 3)).toNat)), some (.inl (dt 80 (((5320 + (5 * p1)) + 4)).toNat))]) (st' := [.inl ((3 * (dt 80 (((5320 + (5 * p1)) + 2)).toNat)) + (dt 80 (((5320 + (5 * p1)) + 3)).toNat)), .inr (.inr (some 100))]) (w' := (SH, dt)) rfl ?_
            have r30 : (-2147483648) ≤ dt 100 (((3 * (dt 80 (((5320 + (5 * p1)) + 2)).toNat)) + (dt 80 (((5320 + (5 * p1)) + 3)).toNat)).toNat) ∧ dt 100 (((3 * (dt 80 (((5320 + (5 * p1)) + 2)).toNat)) + (dt 80 (((5320 + (5 * p1)) + 3)).toNat)).toNat) ≤ 2147483647 := InvC_get hI 100 (((3 * (dt 80 (((5320 + (5 * p1)) + 2)).toNat)) + (dt 80 (((5320 + (5 * p1)) + 3)).toNat)).toNat) rfl rfl
            refine go_smpq PM194 (L' := [some (.inr (.inr (some 79))), some (.inl p1), some (.inl p2), some (.inl (dt 80 (((5320 + (5 * p1)) + 2)).toNat)), some (.inl (dt 80 (((5320 + (5 * p1)) + 3)).toNat)), some (.inl (dt 80 (((5320 + (5 * p1)) + 4)).toNat))]) (st' := [.inl (dt 100 (((3 * (dt 80 (((5320 + (5 * p1)) + 2)).toNat)) + (dt 80 (((5320 + (5 * p1)) + 3)).toNat)).toNat))]) (w' := (SH, dt)) rfl rfl (s_iald (n := 6) (f := dt 100) rfl ⟨by omega, by omega⟩) ?_
            refine go_retq PM194 (k := 0) (r := some (.inl (dt 100 (((3 * (dt 80 (((5320 + (5 * p1)) + 2)).toNat)) + (dt 80 (((5320 + (5 * p1)) + 3)).toNat)).toNat)))) (w1 := (SH, dt)) rfl ?_
            exact ⟨rfl, ⟨_, rfl, (by first | exact bnd r30 (by decide) (by decide) | exact ⟨by omega, by omega⟩), by rw [show 5320 + 5 * p1.toNat + 1 = (((5320 + (5 * p1)) + 1)).toNat by omega, show 5320 + 5 * p1.toNat + 2 = (((5320 + (5 * p1)) + 2)).toNat by omega, show 5320 + 5 * p1.toNat + 3 = (((5320 + (5 * p1)) + 3)).toNat by omega, show 5320 + 5 * p1.toNat + 4 = (((5320 + (5 * p1)) + 4)).toNat by omega]; unfold RUL; rw [← ex_]; (repeat (first | rw [if_pos (by omega)] | rw [if_neg (by omega)])); first | omega | (rw [← ev_ (by omega)]; omega) | (rw [← ew_ (by omega)]; omega)⟩⟩
          · skip
            refine go_toq PM194 (k := 3) (pc' := 79) (L' := [some (.inr (.inr (some 79))), some (.inl p1), some (.inl p2), some (.inl (dt 80 (((5320 + (5 * p1)) + 2)).toNat)), some (.inl (dt 80 (((5320 + (5 * p1)) + 3)).toNat)), some (.inl (dt 80 (((5320 + (5 * p1)) + 4)).toNat))]) (st' := [.inl (dt 80 (((5320 + (5 * p1)) + 3)).toNat), .inr (.inr (some 95))]) (w' := (SH, dt)) rfl ?_
            have r31 : (-2147483648) ≤ dt 95 ((dt 80 (((5320 + (5 * p1)) + 3)).toNat).toNat) ∧ dt 95 ((dt 80 (((5320 + (5 * p1)) + 3)).toNat).toNat) ≤ 2147483647 := InvC_get hI 95 ((dt 80 (((5320 + (5 * p1)) + 3)).toNat).toNat) rfl rfl
            refine go_smpq PM194 (L' := [some (.inr (.inr (some 79))), some (.inl p1), some (.inl p2), some (.inl (dt 80 (((5320 + (5 * p1)) + 2)).toNat)), some (.inl (dt 80 (((5320 + (5 * p1)) + 3)).toNat)), some (.inl (dt 80 (((5320 + (5 * p1)) + 4)).toNat))]) (st' := [.inl (dt 95 ((dt 80 (((5320 + (5 * p1)) + 3)).toNat).toNat))]) (w' := (SH, dt)) rfl rfl (s_iald (n := 3) (f := dt 95) rfl ⟨by omega, by omega⟩) ?_
            refine go_retq PM194 (k := 1) (r := some (.inl (dt 95 ((dt 80 (((5320 + (5 * p1)) + 3)).toNat).toNat)))) (w1 := (SH, dt)) rfl ?_
            exact ⟨rfl, ⟨_, rfl, (by first | exact bnd r31 (by decide) (by decide) | exact ⟨by omega, by omega⟩), by rw [show 5320 + 5 * p1.toNat + 1 = (((5320 + (5 * p1)) + 1)).toNat by omega, show 5320 + 5 * p1.toNat + 2 = (((5320 + (5 * p1)) + 2)).toNat by omega, show 5320 + 5 * p1.toNat + 3 = (((5320 + (5 * p1)) + 3)).toNat by omega, show 5320 + 5 * p1.toNat + 4 = (((5320 + (5 * p1)) + 4)).toNat by omega]; unfold RUL; rw [← ex_]; (repeat (first | rw [if_pos (by omega)] | rw [if_neg (by omega)])); first | omega | (rw [← ev_ (by omega)]; omega) | (rw [← ew_ (by omega)]; omega)⟩⟩
        · skip
          refine go_toq PM194 (k := 3) (pc' := 63) (L' := [some (.inr (.inr (some 79))), some (.inl p1), some (.inl p2), some (.inl (dt 80 (((5320 + (5 * p1)) + 2)).toNat)), some (.inl (dt 80 (((5320 + (5 * p1)) + 3)).toNat)), some (.inl (dt 80 (((5320 + (5 * p1)) + 4)).toNat))]) (st' := [.inl (dt 80 (((5320 + (5 * p1)) + 3)).toNat), .inr (.inr (some 94))]) (w' := (SH, dt)) rfl ?_
          have r32 : (-2147483648) ≤ dt 94 ((dt 80 (((5320 + (5 * p1)) + 3)).toNat).toNat) ∧ dt 94 ((dt 80 (((5320 + (5 * p1)) + 3)).toNat).toNat) ≤ 2147483647 := InvC_get hI 94 ((dt 80 (((5320 + (5 * p1)) + 3)).toNat).toNat) rfl rfl
          refine go_smpq PM194 (L' := [some (.inr (.inr (some 79))), some (.inl p1), some (.inl p2), some (.inl (dt 80 (((5320 + (5 * p1)) + 2)).toNat)), some (.inl (dt 80 (((5320 + (5 * p1)) + 3)).toNat)), some (.inl (dt 80 (((5320 + (5 * p1)) + 4)).toNat))]) (st' := [.inl (dt 94 ((dt 80 (((5320 + (5 * p1)) + 3)).toNat).toNat))]) (w' := (SH, dt)) rfl rfl (s_iald (n := 3) (f := dt 94) rfl ⟨by omega, by omega⟩) ?_
          refine go_retq PM194 (k := 1) (r := some (.inl (dt 94 ((dt 80 (((5320 + (5 * p1)) + 3)).toNat).toNat)))) (w1 := (SH, dt)) rfl ?_
          exact ⟨rfl, ⟨_, rfl, (by first | exact bnd r32 (by decide) (by decide) | exact ⟨by omega, by omega⟩), by rw [show 5320 + 5 * p1.toNat + 1 = (((5320 + (5 * p1)) + 1)).toNat by omega, show 5320 + 5 * p1.toNat + 2 = (((5320 + (5 * p1)) + 2)).toNat by omega, show 5320 + 5 * p1.toNat + 3 = (((5320 + (5 * p1)) + 3)).toNat by omega, show 5320 + 5 * p1.toNat + 4 = (((5320 + (5 * p1)) + 4)).toNat by omega]; unfold RUL; rw [← ex_]; (repeat (first | rw [if_pos (by omega)] | rw [if_neg (by omega)])); first | omega | (rw [← ev_ (by omega)]; omega) | (rw [← ew_ (by omega)]; omega)⟩⟩
      · skip
        refine go_toq PM194 (k := 3) (pc' := 48) (L' := [some (.inr (.inr (some 79))), some (.inl p1), some (.inl p2), some (.inl (dt 80 (((5320 + (5 * p1)) + 2)).toNat)), some (.inl (dt 80 (((5320 + (5 * p1)) + 3)).toNat)), some (.inl (dt 80 (((5320 + (5 * p1)) + 4)).toNat))]) (st' := [.inl (dt 80 (((5320 + (5 * p1)) + 3)).toNat), .inr (.inr (some 92))]) (w' := (SH, dt)) rfl ?_
        have r33 : (-2147483648) ≤ dt 92 ((dt 80 (((5320 + (5 * p1)) + 3)).toNat).toNat) ∧ dt 92 ((dt 80 (((5320 + (5 * p1)) + 3)).toNat).toNat) ≤ 2147483647 := InvC_get hI 92 ((dt 80 (((5320 + (5 * p1)) + 3)).toNat).toNat) rfl rfl
        refine go_smpq PM194 (L' := [some (.inr (.inr (some 79))), some (.inl p1), some (.inl p2), some (.inl (dt 80 (((5320 + (5 * p1)) + 2)).toNat)), some (.inl (dt 80 (((5320 + (5 * p1)) + 3)).toNat)), some (.inl (dt 80 (((5320 + (5 * p1)) + 4)).toNat))]) (st' := [.inl (dt 92 ((dt 80 (((5320 + (5 * p1)) + 3)).toNat).toNat))]) (w' := (SH, dt)) rfl rfl (s_iald (n := 3) (f := dt 92) rfl ⟨by omega, by omega⟩) ?_
        refine go_retq PM194 (k := 1) (r := some (.inl (dt 92 ((dt 80 (((5320 + (5 * p1)) + 3)).toNat).toNat)))) (w1 := (SH, dt)) rfl ?_
        exact ⟨rfl, ⟨_, rfl, (by first | exact bnd r33 (by decide) (by decide) | exact ⟨by omega, by omega⟩), by rw [show 5320 + 5 * p1.toNat + 1 = (((5320 + (5 * p1)) + 1)).toNat by omega, show 5320 + 5 * p1.toNat + 2 = (((5320 + (5 * p1)) + 2)).toNat by omega, show 5320 + 5 * p1.toNat + 3 = (((5320 + (5 * p1)) + 3)).toNat by omega, show 5320 + 5 * p1.toNat + 4 = (((5320 + (5 * p1)) + 4)).toNat by omega]; unfold RUL; rw [← ex_]; (repeat (first | rw [if_pos (by omega)] | rw [if_neg (by omega)])); first | omega | (rw [← ev_ (by omega)]; omega) | (rw [← ew_ (by omega)]; omega)⟩⟩
set_option maxRecDepth 20000 in
theorem sp_X6_saysOf_f (L : Nat) (xs : Nat → Int32) (sio : Option Nat) (d : Nat) (dt : Nat → Nat → Int) (hI : InvC dt) (hM : MW (dt 80))  (p1 : Int) (h_p1 : 0 ≤ p1 ∧ p1 ≤ 11) (p2 : Int) (h_p2 : 0 ≤ p2 ∧ p2 ≤ 7)  : GO (am_XX L xs sio) (d + 5) 195 0 [some (.inr (.inr (some 79))), some (.inl p1), some (.inl p2)] [] (SH, dt) (fun r w2 => ∃ dt2 : Nat → Nat → Int, w2 = (SH, dt2) ∧ InvC dt2 ∧ Fr [88, 89, 90, 91, 92, 93, 94, 95, 96, 97, 98, 99, 100] dt dt2 ∧ ((∃ v : Int, r = some (.inl v) ∧ ((-2147483648) ≤ v ∧ v ≤ 2147483647) ∧ (v = SAID (dt 80) p1.toNat p2)))) := by
  have hF : Fr [88, 89, 90, 91, 92, 93, 94, 95, 96, 97, 98, 99, 100] dt dt := Fr_refl
  refine go_toq PM195 (k := 4) (pc' := 4) (L' := [some (.inr (.inr (some 79))), some (.inl p1), some (.inl p2)]) (st' := [.inl 0, .inl p1, .inr (.inr (some 79)), .inr (.inr (some 79))]) (w' := (SH, dt)) rfl ?_
  refine go_callq PM195 PM191 (Q' := _) rfl rfl rfl rfl (sp_X6_asked_0 L xs sio (d + 4) dt hI hM  p1 (by first | exact h_p1 | exact bnd h_p1 (by decide) (by decide) | exact ⟨by omega, by omega⟩) ) ?_
  rintro _ _ ⟨rfl, h1⟩
  refine ⟨rfl, ?_⟩
  rcases h1 with ⟨rfl, h1⟩
  refine go_callq PM195 PM184 (Q' := _) rfl rfl rfl rfl (sp_X6_goes_w L xs sio (d + 0) dt hI hM  (dt 80 (((5320 + (5 * p1)) + 0)).toNat) ⟨by omega, by omega⟩ ) ?_
  rintro _ _ ⟨dt3, rfl, hI4, hF5, h2⟩
  refine ⟨rfl, ?_⟩
  have hF6 : Fr [88, 89, 90, 91, 92, 93, 94, 95, 96, 97, 98, 99, 100] dt dt3 := Fr_tr hF hF5 (by decide)
  rcases h2 with ⟨rfl, h2⟩
  have we7 : VR dt3 = wend (dt 80) (dt 80 (5320 + 5 * (p1).toNat)) := by have z_ := h2; rw [show 5320 + 5 * (p1).toNat = (((5320 + (5 * p1)) + 0)).toNat by omega]; exact z_
  refine go_toq PM195 (k := 3) (pc' := 13) (L' := [some (.inr (.inr (some 79))), some (.inl p1), some (.inl p2)]) (st' := [.inl p2, .inl p1, .inr (.inr (some 79))]) (w' := (SH, dt3)) rfl ?_
  refine go_callq PM195 PM194 (Q' := _) rfl rfl rfl rfl (sp_X6_saysNow_f L xs sio (d + 3) dt3 hI4 (MW_fr hM hF6 (by decide))  p1 (by first | exact h_p1 | exact bnd h_p1 (by decide) (by decide) | exact ⟨by omega, by omega⟩) p2 (by first | exact h_p2 | exact bnd h_p2 (by decide) (by decide) | exact ⟨by omega, by omega⟩) ) ?_
  rintro _ _ ⟨rfl, h8⟩
  refine ⟨rfl, ?_⟩
  rcases h8 with ⟨v_h8, rfl, h8r, h8⟩
  have sn9 : v_h8 = SAID (dt 80) (p1).toNat p2 := by have z_ := h8; rw [we7, show dt3 80 = dt 80 from funext (hF6 80 (by decide))] at z_; rw [SAID_r (by omega)]; exact z_
  refine go_retq PM195 (k := 0) (r := some (.inl v_h8)) (w1 := (SH, dt3)) rfl ?_
  exact ⟨dt3, rfl, hI4, hF6, ⟨_, rfl, (by first | exact bnd h8r (by decide) (by decide) | exact ⟨by omega, by omega⟩), by first | exact True.intro | rfl | omega | trivial⟩⟩
set_option maxRecDepth 20000 in
theorem sp_X6_tellsSome_f (L : Nat) (xs : Nat → Int32) (sio : Option Nat) (d : Nat) (dt : Nat → Nat → Int) (hI : InvC dt) (hM : MW (dt 80))  (p1 : Int) (h_p1 : 0 ≤ p1 ∧ p1 ≤ 11)  : GO (am_XX L xs sio) (d + 5) 196 0 [some (.inr (.inr (some 79))), some (.inl p1)] [] (SH, dt) (fun r w2 => ∃ dt2 : Nat → Nat → Int, w2 = (SH, dt2) ∧ InvC dt2 ∧ Fr [88, 89, 90, 91, 92, 93, 94, 95, 96, 97, 98, 99, 100] dt dt2 ∧ ((r = some (.inl 1) ∧ (¬ SAID (dt 80) p1.toNat 8 = SAID (dt 80) p1.toNat 0)) ∨ (r = some (.inl 0) ∧ (SAID (dt 80) p1.toNat 8 = SAID (dt 80) p1.toNat 0)))) := by
  have hF : Fr [88, 89, 90, 91, 92, 93, 94, 95, 96, 97, 98, 99, 100] dt dt := Fr_refl
  have e8_ := SAID_1 (f := dt 80) (q := p1.toNat)
  refine go_toq PM196 (k := 4) (pc' := 4) (L' := [some (.inr (.inr (some 79))), some (.inl p1)]) (st' := [.inl 0, .inl p1, .inr (.inr (some 79)), .inr (.inr (some 79))]) (w' := (SH, dt)) rfl ?_
  refine go_callq PM196 PM191 (Q' := _) rfl rfl rfl rfl (sp_X6_asked_0 L xs sio (d + 4) dt hI hM  p1 (by first | exact h_p1 | exact bnd h_p1 (by decide) (by decide) | exact ⟨by omega, by omega⟩) ) ?_
  rintro _ _ ⟨rfl, h1⟩
  refine ⟨rfl, ?_⟩
  rcases h1 with ⟨rfl, h1⟩
  refine go_callq PM196 PM184 (Q' := _) rfl rfl rfl rfl (sp_X6_goes_w L xs sio (d + 0) dt hI hM  (dt 80 (((5320 + (5 * p1)) + 0)).toNat) ⟨by omega, by omega⟩ ) ?_
  rintro _ _ ⟨dt3, rfl, hI4, hF5, h2⟩
  refine ⟨rfl, ?_⟩
  have hF6 : Fr [88, 89, 90, 91, 92, 93, 94, 95, 96, 97, 98, 99, 100] dt dt3 := Fr_tr hF hF5 (by decide)
  rcases h2 with ⟨rfl, h2⟩
  have we7 : VR dt3 = wend (dt 80) (dt 80 (5320 + 5 * (p1).toNat)) := by have z_ := h2; rw [show 5320 + 5 * (p1).toNat = (((5320 + (5 * p1)) + 0)).toNat by omega]; exact z_
  refine go_toq PM196 (k := 3) (pc' := 13) (L' := [some (.inr (.inr (some 79))), some (.inl p1)]) (st' := [.inl 1, .inl p1, .inr (.inr (some 79))]) (w' := (SH, dt3)) rfl ?_
  refine go_callq PM196 PM194 (Q' := _) rfl rfl rfl rfl (sp_X6_saysNow_f L xs sio (d + 3) dt3 hI4 (MW_fr hM hF6 (by decide))  p1 (by first | exact h_p1 | exact bnd h_p1 (by decide) (by decide) | exact ⟨by omega, by omega⟩) 1 ⟨by decide, by decide⟩ ) ?_
  rintro _ _ ⟨rfl, h8⟩
  refine ⟨rfl, ?_⟩
  rcases h8 with ⟨v_h8, rfl, h8r, h8⟩
  have sn9 : v_h8 = SAID (dt 80) (p1).toNat 1 := by have z_ := h8; rw [we7, show dt3 80 = dt 80 from funext (hF6 80 (by decide))] at z_; rw [SAID_r (by omega)]; exact z_
  refine go_toq PM196 (k := 3) (pc' := 19) (L' := [some (.inr (.inr (some 79))), some (.inl p1)]) (st' := [.inl 0, .inl p1, .inr (.inr (some 79)), .inl v_h8]) (w' := (SH, dt3)) rfl ?_
  refine go_callq PM196 PM194 (Q' := _) rfl rfl rfl rfl (sp_X6_saysNow_f L xs sio (d + 3) dt3 hI4 (MW_fr hM hF6 (by decide))  p1 (by first | exact h_p1 | exact bnd h_p1 (by decide) (by decide) | exact ⟨by omega, by omega⟩) 0 ⟨by decide, by decide⟩ ) ?_
  rintro _ _ ⟨rfl, h10⟩
  refine ⟨rfl, ?_⟩
  rcases h10 with ⟨v_h10, rfl, h10r, h10⟩
  have sn11 : v_h10 = SAID (dt 80) (p1).toNat 0 := by have z_ := h10; rw [we7, show dt3 80 = dt 80 from funext (hF6 80 (by decide))] at z_; rw [SAID_r (by omega)]; exact z_
  refine go_ifq PM196 (k := 0) (p1 := 29) (p2 := 25) (L' := [some (.inr (.inr (some 79))), some (.inl p1)]) (st' := []) (w' := (SH, dt3)) rfl (c_eq (a := v_h8) (b := v_h10) (by first | exact bnd h8r (by decide) (by decide) | exact ⟨by omega, by omega⟩) (by first | exact bnd h10r (by decide) (by decide) | exact ⟨by omega, by omega⟩)) (fun c12 => ?_) (fun c12 => ?_)
  · skip
    refine go_retq PM196 (k := 1) (r := some (.inl 0)) (w1 := (SH, dt3)) rfl ?_
    exact ⟨dt3, rfl, hI4, hF6, (Or.inr ⟨rfl, by first | exact True.intro | rfl | omega | trivial⟩)⟩
  · skip
    refine go_retq PM196 (k := 2) (r := some (.inl 1)) (w1 := (SH, dt3)) rfl ?_
    exact ⟨dt3, rfl, hI4, hF6, (Or.inl ⟨rfl, by first | exact True.intro | rfl | omega | trivial⟩)⟩
set_option maxRecDepth 20000 in
theorem sp_X6_says_f (L : Nat) (xs : Nat → Int32) (sio : Option Nat) (d : Nat) (dt : Nat → Nat → Int) (hI : InvC dt) (hM : MW (dt 80))  (p1 : Int) (h_p1 : (-2147483648) ≤ p1 ∧ p1 ≤ 2147483647) (p2 : Int) (h_p2 : (-2147483648) ≤ p2 ∧ p2 ≤ 2147483647)  : GO (am_XX L xs sio) (d + 6) 197 0 [some (.inr (.inr (some 79))), some (.inl p1), some (.inl p2)] [] (SH, dt) (fun r w2 => ∃ dt2 : Nat → Nat → Int, w2 = (SH, dt2) ∧ InvC dt2 ∧ Fr [88, 89, 90, 91, 92, 93, 94, 95, 96, 97, 98, 99, 100] dt dt2 ∧ ((r = some (.inl (-2)) ∧ (¬ ((0 ≤ p1 ∧ p1 < dt 80 1) ∧ (0 ≤ p2 ∧ p2 ≤ 9)))) ∨ (∃ v : Int, r = some (.inl v) ∧ ((-2147483648) ≤ v ∧ v ≤ 2147483647) ∧ ((0 ≤ p1 ∧ p1 < dt 80 1) ∧ (0 ≤ p2 ∧ p2 ≤ 9)) ∧ (v = SAID (dt 80) p1.toNat p2)))) := by
  have hF : Fr [88, 89, 90, 91, 92, 93, 94, 95, 96, 97, 98, 99, 100] dt dt := Fr_refl
  have r1 : (-2147483648) ≤ dt 80 1 ∧ dt 80 1 ≤ 2147483647 := InvC_get hI 80 1 rfl rfl
  have r2 := MW_n hM
  have e8_ := SAID_1 (f := dt 80) (q := p1.toNat)
  have e9_ := SAID_9 (f := dt 80) (q := p1.toNat)
  refine go_toq PM197 (k := 2) (pc' := 2) (L' := [some (.inr (.inr (some 79))), some (.inl p1), some (.inl p2)]) (st' := [.inl p1, .inr (.inr (some 79))]) (w' := (SH, dt)) rfl ?_
  refine go_callq PM197 PM192 (Q' := _) rfl rfl rfl rfl (sp_X6_isQuestion L xs sio (d + 4) dt hI hM  p1 (by first | exact h_p1 | exact bnd h_p1 (by decide) (by decide) | exact ⟨by omega, by omega⟩) ) ?_
  rintro _ _ ⟨rfl, h3⟩
  refine ⟨rfl, ?_⟩
  rcases h3 with ⟨rfl, h3⟩ | ⟨rfl, h3⟩
  · skip
    refine go_toq PM197 (k := 4) (pc' := 12) (L' := [some (.inr (.inr (some 79))), some (.inl p1), some (.inl p2)]) (st' := [.inl 9, .inl 0, .inl p2]) (w' := (SH, dt)) rfl ?_
    refine go_callq PM197 PM146 (Q' := _) rfl rfl rfl rfl (sp_X6_isIn L xs sio (d + 5) dt hI  p2 (by first | exact h_p2 | exact bnd h_p2 (by decide) (by decide) | exact ⟨by omega, by omega⟩) 0 ⟨by decide, by decide⟩ 9 ⟨by decide, by decide⟩ ) ?_
    rintro _ _ ⟨rfl, h4⟩
    refine ⟨rfl, ?_⟩
    rcases h4 with ⟨rfl, h4⟩ | ⟨rfl, h4⟩
    · skip
      refine go_ifq PM197 (k := 3) (p1 := 43) (p2 := 27) (L' := [some (.inr (.inr (some 79))), some (.inl p1), some (.inl p2)]) (st' := []) (w' := (SH, dt)) rfl (c_ne (a := p2) (b := 9) (by first | exact bnd h_p2 (by decide) (by decide) | exact ⟨by omega, by omega⟩) ⟨by decide, by decide⟩) (fun c5 => ?_) (fun c5 => ?_)
      · skip
        refine go_ifq PM197 (k := 4) (p1 := 55) (p2 := 51) (L' := [some (.inr (.inr (some 79))), some (.inl p1), some (.inl p2)]) (st' := [.inl p1, .inr (.inr (some 79))]) (w' := (SH, dt)) rfl (c_ne (a := p2) (b := 8) (by first | exact bnd h_p2 (by decide) (by decide) | exact ⟨by omega, by omega⟩) ⟨by decide, by decide⟩) (fun c6 => ?_) (fun c6 => ?_)
        · skip
          refine go_toq PM197 (k := 1) (pc' := 56) (L' := [some (.inr (.inr (some 79))), some (.inl p1), some (.inl p2)]) (st' := [.inl p2, .inl p1, .inr (.inr (some 79))]) (w' := (SH, dt)) rfl ?_
          refine go_callq PM197 PM195 (Q' := _) rfl rfl rfl rfl (sp_X6_saysOf_f L xs sio (d + 0) dt hI hM  p1 (by first | exact h_p1 | exact bnd h_p1 (by decide) (by decide) | exact ⟨by omega, by omega⟩) p2 (by first | exact h_p2 | exact bnd h_p2 (by decide) (by decide) | exact ⟨by omega, by omega⟩) ) ?_
          rintro _ _ ⟨dt8, rfl, hI9, hF10, h7⟩
          refine ⟨rfl, ?_⟩
          have hF11 : Fr [88, 89, 90, 91, 92, 93, 94, 95, 96, 97, 98, 99, 100] dt dt8 := Fr_tr hF hF10 (by decide)
          rcases h7 with ⟨v_h7, rfl, h7r, h7⟩
          refine go_retq PM197 (k := 0) (r := some (.inl v_h7)) (w1 := (SH, dt8)) rfl ?_
          exact ⟨dt8, rfl, hI9, hF11, (Or.inr ⟨_, rfl, (by first | exact bnd h7r (by decide) (by decide) | exact ⟨by omega, by omega⟩), ⟨by first | exact True.intro | rfl | omega | trivial, by first | (rw [show p2 = 9 by omega, e9_]; first | (rw [if_pos (by omega)]; done) | (rw [if_neg (by omega)]; done)) | (rw [show p2 = 8 by omega]; omega) | omega⟩⟩)⟩
        · skip
          refine go_toq PM197 (k := 2) (pc' := 56) (L' := [some (.inr (.inr (some 79))), some (.inl p1), some (.inl p2)]) (st' := [.inl 1, .inl p1, .inr (.inr (some 79))]) (w' := (SH, dt)) rfl ?_
          refine go_callq PM197 PM195 (Q' := _) rfl rfl rfl rfl (sp_X6_saysOf_f L xs sio (d + 0) dt hI hM  p1 (by first | exact h_p1 | exact bnd h_p1 (by decide) (by decide) | exact ⟨by omega, by omega⟩) 1 ⟨by decide, by decide⟩ ) ?_
          rintro _ _ ⟨dt13, rfl, hI14, hF15, h12⟩
          refine ⟨rfl, ?_⟩
          have hF16 : Fr [88, 89, 90, 91, 92, 93, 94, 95, 96, 97, 98, 99, 100] dt dt13 := Fr_tr hF hF15 (by decide)
          rcases h12 with ⟨v_h12, rfl, h12r, h12⟩
          refine go_retq PM197 (k := 0) (r := some (.inl v_h12)) (w1 := (SH, dt13)) rfl ?_
          exact ⟨dt13, rfl, hI14, hF16, (Or.inr ⟨_, rfl, (by first | exact bnd h12r (by decide) (by decide) | exact ⟨by omega, by omega⟩), ⟨by first | exact True.intro | rfl | omega | trivial, by first | (rw [show p2 = 9 by omega, e9_]; first | (rw [if_pos (by omega)]; done) | (rw [if_neg (by omega)]; done)) | (rw [show p2 = 8 by omega]; omega) | omega⟩⟩)⟩
      · skip
        refine go_toq PM197 (k := 2) (pc' := 29) (L' := [some (.inr (.inr (some 79))), some (.inl p1), some (.inl p2)]) (st' := [.inl p1, .inr (.inr (some 79))]) (w' := (SH, dt)) rfl ?_
        refine go_callq PM197 PM196 (Q' := _) rfl rfl rfl rfl (sp_X6_tellsSome_f L xs sio (d + 0) dt hI hM  p1 (by first | exact h_p1 | exact bnd h_p1 (by decide) (by decide) | exact ⟨by omega, by omega⟩) ) ?_
        rintro _ _ ⟨dt18, rfl, hI19, hF20, h17⟩
        refine ⟨rfl, ?_⟩
        have hF21 : Fr [88, 89, 90, 91, 92, 93, 94, 95, 96, 97, 98, 99, 100] dt dt18 := Fr_tr hF hF20 (by decide)
        rcases h17 with ⟨rfl, h17⟩ | ⟨rfl, h17⟩
        · skip
          refine go_retq PM197 (k := 3) (r := some (.inl 1)) (w1 := (SH, dt18)) rfl ?_
          exact ⟨dt18, rfl, hI19, hF21, (Or.inr ⟨_, rfl, ⟨by decide, by decide⟩, ⟨by first | exact True.intro | rfl | omega | trivial, by first | (rw [show p2 = 9 by omega, e9_]; first | (rw [if_pos (by omega)]; done) | (rw [if_neg (by omega)]; done)) | (rw [show p2 = 8 by omega]; omega) | omega⟩⟩)⟩
        · skip
          refine go_retq PM197 (k := 3) (r := some (.inl 0)) (w1 := (SH, dt18)) rfl ?_
          exact ⟨dt18, rfl, hI19, hF21, (Or.inr ⟨_, rfl, ⟨by decide, by decide⟩, ⟨by first | exact True.intro | rfl | omega | trivial, by first | (rw [show p2 = 9 by omega, e9_]; first | (rw [if_pos (by omega)]; done) | (rw [if_neg (by omega)]; done)) | (rw [show p2 = 8 by omega]; omega) | omega⟩⟩)⟩
    · skip
      refine go_retq PM197 (k := 2) (r := some (.inl (-2))) (w1 := (SH, dt)) rfl ?_
      first | exact ⟨dt, rfl, hI, hF, (Or.inl ⟨rfl, by first | exact True.intro | rfl | omega | trivial⟩)⟩ | exact ⟨dt, rfl, hI, hF, (Or.inr ⟨_, rfl, ⟨by decide, by decide⟩, ⟨by first | exact True.intro | rfl | omega | trivial, by first | (rw [show p2 = 9 by omega, e9_]; first | (rw [if_pos (by omega)]; done) | (rw [if_neg (by omega)]; done)) | (rw [show p2 = 8 by omega]; omega) | omega⟩⟩)⟩
  · skip
    refine go_retq PM197 (k := 2) (r := some (.inl (-2))) (w1 := (SH, dt)) rfl ?_
    first | exact ⟨dt, rfl, hI, hF, (Or.inl ⟨rfl, by first | exact True.intro | rfl | omega | trivial⟩)⟩ | exact ⟨dt, rfl, hI, hF, (Or.inr ⟨_, rfl, ⟨by decide, by decide⟩, ⟨by first | exact True.intro | rfl | omega | trivial, by first | (rw [show p2 = 9 by omega, e9_]; first | (rw [if_pos (by omega)]; done) | (rw [if_neg (by omega)]; done)) | (rw [show p2 = 8 by omega]; omega) | omega⟩⟩)⟩
set_option maxRecDepth 20000 in
theorem sp_X6_partedBy_f (L : Nat) (xs : Nat → Int32) (sio : Option Nat) (d : Nat) (dt : Nat → Nat → Int) (hI : InvC dt) (hM : MW (dt 80))  (p1 : Int) (h_p1 : 0 ≤ p1 ∧ p1 ≤ 7) (p2 : Int) (h_p2 : 0 ≤ p2 ∧ p2 ≤ 7)  : GO (am_XX L xs sio) (d + 5) 218 0 [some (.inr (.inr (some 79))), some (.inl p1), some (.inl p2), none, none] [] (SH, dt) (fun r w2 => ∃ dt2 : Nat → Nat → Int, w2 = (SH, dt2) ∧ InvC dt2 ∧ Fr [88, 89, 90, 91, 92, 93, 94, 95, 96, 97, 98, 99, 100] dt dt2 ∧ ((∃ v : Int, r = some (.inl v) ∧ (0 ≤ v ∧ v ≤ 2147483647) ∧ (v = PTB (SAID (dt 80)) p1 p2 (dt 80 1).toNat)))) := by
  have hF : Fr [88, 89, 90, 91, 92, 93, 94, 95, 96, 97, 98, 99, 100] dt dt := Fr_refl
  have r1 : (-2147483648) ≤ dt 80 1 ∧ dt 80 1 ≤ 2147483647 := InvC_get hI 80 1 rfl rfl
  have r2 := MW_n hM
  refine go_toq PM218 (k := 4) (pc' := 5) (L' := [some (.inr (.inr (some 79))), some (.inl p1), some (.inl p2), some (.inl 0), some (.inl 0)]) (st' := []) (w' := (SH, dt)) rfl ?_
  have loop27 : ∀ (k_ : Nat) (l5_3 : Int) (l5_4 : Int) (dt20 : Nat → Nat → Int) (hI21 : InvC dt20) (hF22 : Fr [88, 89, 90, 91, 92, 93, 94, 95, 96, 97, 98, 99, 100] dt dt20) (i23 : 0 ≤ l5_3 ∧ l5_3 ≤ 2147483647) (i24 : 0 ≤ l5_4 ∧ l5_4 ≤ 12) (i25 : l5_3 = PTB (SAID (dt 80)) p1 p2 l5_4.toNat) (i26 : l5_4 ≤ dt 80 1), (13 - l5_4).toNat < k_ → GO (am_XX L xs sio) (d + 5) 218 5 [some (.inr (.inr (some 79))), some (.inl p1), some (.inl p2), some (.inl l5_3), some (.inl l5_4)] [] (SH, dt20) (fun r w2 => ∃ dt2 : Nat → Nat → Int, w2 = (SH, dt2) ∧ InvC dt2 ∧ Fr [88, 89, 90, 91, 92, 93, 94, 95, 96, 97, 98, 99, 100] dt dt2 ∧ ((∃ v : Int, r = some (.inl v) ∧ (0 ≤ v ∧ v ≤ 2147483647) ∧ (v = PTB (SAID (dt 80)) p1 p2 (dt 80 1).toNat)))) := by
    intro k_
    induction k_ with
    | zero => intro l5_3 l5_4 dt20 hI21 hF22 i23 i24 i25 i26 hm; exact absurd hm (Nat.not_lt_zero _)
    | succ k_ ih_loop27 =>
      intro l5_3 l5_4 dt20 hI21 hF22 i23 i24 i25 i26 hm
      have q3 := i25
      refine go_toq PM218 (k := 4) (pc' := 12) (L' := [some (.inr (.inr (some 79))), some (.inl p1), some (.inl p2), some (.inl l5_3), some (.inl l5_4)]) (st' := [.inl 1, .inr (.inr (some 80)), .inl l5_4]) (w' := (SH, dt20)) rfl ?_
      refine go_smpq PM218 (L' := [some (.inr (.inr (some 79))), some (.inl p1), some (.inl p2), some (.inl l5_3), some (.inl l5_4)]) (st' := [.inl (dt 80 1), .inl l5_4]) (w' := (SH, dt20)) rfl rfl (s_ev (s_iald (n := 7460) (f := dt20 80) rfl ⟨by decide, by decide⟩) (hF22 80 (by decide) _)) ?_
      refine go_ifq PM218 (k := 0) (p1 := 61) (p2 := 16) (L' := [some (.inr (.inr (some 79))), some (.inl p1), some (.inl p2), some (.inl l5_3), some (.inl l5_4)]) (st' := []) (w' := (SH, dt20)) rfl (c_ge (a := l5_4) (b := dt 80 1) (by first | exact bnd i24 (by decide) (by decide) | exact ⟨by omega, by omega⟩) (by first | exact bnd r1 (by decide) (by decide) | exact ⟨by omega, by omega⟩)) (fun c28 => ?_) (fun c28 => ?_)
      · skip
        refine go_retq PM218 (k := 1) (r := some (.inl l5_3)) (w1 := (SH, dt20)) rfl ?_
        exact ⟨dt20, rfl, hI21, hF22, ⟨_, rfl, (by first | exact bnd i23 (by decide) (by decide) | exact ⟨by omega, by omega⟩), by have e_ : l5_4 = dt 80 1 := (by omega); rw [← e_]; exact q3⟩⟩
      · skip
        refine go_toq PM218 (k := 4) (pc' := 21) (L' := [some (.inr (.inr (some 79))), some (.inl p1), some (.inl p2), some (.inl l5_3), some (.inl l5_4)]) (st' := [.inl 0, .inl l5_4, .inr (.inr (some 79)), .inr (.inr (some 79))]) (w' := (SH, dt20)) rfl ?_
        refine go_callq PM218 PM191 (Q' := _) rfl rfl rfl rfl (sp_X6_asked_0 L xs sio (d + 4) dt20 hI21 (MW_fr hM hF22 (by decide))  l5_4 (by first | exact bnd i24 (by decide) (by decide) | exact bndd i24 c28 (by decide) (by decide) | exact ⟨by omega, by omega⟩) ) ?_
        rintro _ _ ⟨rfl, h29⟩
        refine ⟨rfl, ?_⟩
        rcases h29 with ⟨rfl, h29⟩
        refine go_callq PM218 PM184 (Q' := _) rfl rfl rfl rfl (sp_X6_goes_w L xs sio (d + 0) dt20 hI21 (MW_fr hM hF22 (by decide))  (dt20 80 (((5320 + (5 * l5_4)) + 0)).toNat) ⟨by omega, by omega⟩ ) ?_
        rintro _ _ ⟨dt31, rfl, hI32, hF33, h30⟩
        refine ⟨rfl, ?_⟩
        have hF34 : Fr [88, 89, 90, 91, 92, 93, 94, 95, 96, 97, 98, 99, 100] dt dt31 := Fr_tr hF22 hF33 (by decide)
        rcases h30 with ⟨rfl, h30⟩
        have we35 : VR dt31 = wend (dt 80) (dt 80 (5320 + 5 * (l5_4).toNat)) := by have z_ := h30; rw [show 5320 + 5 * (l5_4).toNat = (((5320 + (5 * l5_4)) + 0)).toNat by omega]; rw [show dt20 80 = dt 80 from funext (hF22 80 (by decide))] at z_; exact z_
        refine go_toq PM218 (k := 4) (pc' := 32) (L' := [some (.inr (.inr (some 79))), some (.inl p1), some (.inl p2), some (.inl l5_3), some (.inl l5_4)]) (st' := [.inl p1, .inl l5_4, .inr (.inr (some 79)), .inl l5_3]) (w' := (SH, dt31)) rfl ?_
        refine go_callq PM218 PM194 (Q' := _) rfl rfl rfl rfl (sp_X6_saysNow_f L xs sio (d + 3) dt31 hI32 (MW_fr hM hF34 (by decide))  l5_4 (by first | exact bnd i24 (by decide) (by decide) | exact bndd i24 c28 (by decide) (by decide) | exact ⟨by omega, by omega⟩) p1 (by first | exact h_p1 | exact bnd h_p1 (by decide) (by decide) | exact ⟨by omega, by omega⟩) ) ?_
        rintro _ _ ⟨rfl, h36⟩
        refine ⟨rfl, ?_⟩
        rcases h36 with ⟨v_h36, rfl, h36r, h36⟩
        have sn37 : v_h36 = SAID (dt 80) (l5_4).toNat p1 := by have z_ := h36; rw [we35, show dt31 80 = dt 80 from funext (hF34 80 (by decide))] at z_; rw [SAID_r (by omega)]; exact z_
        refine go_toq PM218 (k := 3) (pc' := 39) (L' := [some (.inr (.inr (some 79))), some (.inl p1), some (.inl p2), some (.inl l5_3), some (.inl l5_4)]) (st' := [.inl p2, .inl l5_4, .inr (.inr (some 79)), .inl v_h36, .inl l5_3]) (w' := (SH, dt31)) rfl ?_
        refine go_callq PM218 PM194 (Q' := _) rfl rfl rfl rfl (sp_X6_saysNow_f L xs sio (d + 3) dt31 hI32 (MW_fr hM hF34 (by decide))  l5_4 (by first | exact bnd i24 (by decide) (by decide) | exact bndd i24 c28 (by decide) (by decide) | exact ⟨by omega, by omega⟩) p2 (by first | exact h_p2 | exact bnd h_p2 (by decide) (by decide) | exact ⟨by omega, by omega⟩) ) ?_
        rintro _ _ ⟨rfl, h38⟩
        refine ⟨rfl, ?_⟩
        rcases h38 with ⟨v_h38, rfl, h38r, h38⟩
        have sn39 : v_h38 = SAID (dt 80) (l5_4).toNat p2 := by have z_ := h38; rw [we35, show dt31 80 = dt 80 from funext (hF34 80 (by decide))] at z_; rw [SAID_r (by omega)]; exact z_
        refine go_ifq PM218 (k := 0) (p1 := 52) (p2 := 45) (L' := [some (.inr (.inr (some 79))), some (.inl p1), some (.inl p2), some (.inl l5_3), some (.inl l5_4)]) (st' := [.inl l5_3]) (w' := (SH, dt31)) rfl (c_eq (a := v_h36) (b := v_h38) (by first | exact bnd h36r (by decide) (by decide) | exact ⟨by omega, by omega⟩) (by first | exact bnd h38r (by decide) (by decide) | exact ⟨by omega, by omega⟩)) (fun c40 => ?_) (fun c40 => ?_)
        · skip
          have r41 : 0 ≤ am_or l5_3 0 ∧ am_or l5_3 0 ≤ 2147483647 := am_or_N (n := 31) ⟨by omega, by omega⟩ ⟨by omega, by omega⟩ (by decide) (by decide)
          refine go_toq PM218 (k := 5) (pc' := 5) (L' := [some (.inr (.inr (some 79))), some (.inl p1), some (.inl p2), some (.inl (am_or l5_3 0)), some (.inl (l5_4 + 1))]) (st' := []) (w' := (SH, dt31)) rfl ?_
          exact GO.le (ih_loop27 (am_or l5_3 0) (l5_4 + 1) dt31 hI32 hF34 (by first | exact PTB_n q3 (by omega) (by omega) | omega) (by first | exact PTB_n q3 (by omega) (by omega) | omega) (by first | exact PTB_n q3 (by omega) (by omega) | omega) (by first | exact PTB_n q3 (by omega) (by omega) | omega) (by omega)) ⟨.inl rfl, .inl rfl, .inl rfl, .inl rfl, .inl rfl, trivial⟩
        · skip
          have r42 : 1 ≤ am_shl 1 l5_4 ∧ am_shl 1 l5_4 ≤ 1073741824 := shl1_R ⟨by omega, by omega⟩
          have r43 : 0 ≤ am_or l5_3 (am_shl 1 l5_4) ∧ am_or l5_3 (am_shl 1 l5_4) ≤ 2147483647 := am_or_N (n := 31) ⟨by omega, by omega⟩ ⟨by omega, by omega⟩ (by decide) (by decide)
          refine go_toq PM218 (k := 8) (pc' := 5) (L' := [some (.inr (.inr (some 79))), some (.inl p1), some (.inl p2), some (.inl (am_or l5_3 (am_shl 1 l5_4))), some (.inl (l5_4 + 1))]) (st' := []) (w' := (SH, dt31)) rfl ?_
          exact GO.le (ih_loop27 (am_or l5_3 (am_shl 1 l5_4)) (l5_4 + 1) dt31 hI32 hF34 (by first | exact PTB_y q3 (by omega) (by omega) | omega) (by first | exact PTB_y q3 (by omega) (by omega) | omega) (by first | exact PTB_y q3 (by omega) (by omega) | omega) (by first | exact PTB_y q3 (by omega) (by omega) | omega) (by omega)) ⟨.inl rfl, .inl rfl, .inl rfl, .inl rfl, .inl rfl, trivial⟩
  exact GO.le (loop27 _ 0 0 dt hI hF (by first | rfl | omega) (by first | rfl | omega) (by first | rfl | omega) (by first | rfl | omega) (Nat.lt_succ_self _)) ⟨.inl rfl, .inl rfl, .inl rfl, .inl rfl, .inl rfl, trivial⟩
set_option maxRecDepth 20000 in
theorem sp_X6_parted_f (L : Nat) (xs : Nat → Int32) (sio : Option Nat) (d : Nat) (dt : Nat → Nat → Int) (hI : InvC dt) (hM : MW (dt 80))  (p1 : Int) (h_p1 : (-2147483648) ≤ p1 ∧ p1 ≤ 2147483647) (p2 : Int) (h_p2 : (-2147483648) ≤ p2 ∧ p2 ≤ 2147483647)  : GO (am_XX L xs sio) (d + 6) 219 0 [some (.inr (.inr (some 79))), some (.inl p1), some (.inl p2)] [] (SH, dt) (fun r w2 => ∃ dt2 : Nat → Nat → Int, w2 = (SH, dt2) ∧ InvC dt2 ∧ Fr [88, 89, 90, 91, 92, 93, 94, 95, 96, 97, 98, 99, 100] dt dt2 ∧ ((r = some (.inl (-1)) ∧ (¬ ((0 ≤ p1 ∧ p1 ≤ 7) ∧ (0 ≤ p2 ∧ p2 ≤ 7) ∧ ¬ p1 = p2))) ∨ (∃ v : Int, r = some (.inl v) ∧ (0 ≤ v ∧ v ≤ 2147483647) ∧ ((0 ≤ p1 ∧ p1 ≤ 7) ∧ (0 ≤ p2 ∧ p2 ≤ 7) ∧ ¬ p1 = p2) ∧ (v = PTB (SAID (dt 80)) p1 p2 (dt 80 1).toNat)))) := by
  have hF : Fr [88, 89, 90, 91, 92, 93, 94, 95, 96, 97, 98, 99, 100] dt dt := Fr_refl
  refine go_toq PM219 (k := 1) (pc' := 1) (L' := [some (.inr (.inr (some 79))), some (.inl p1), some (.inl p2)]) (st' := [.inl p1]) (w' := (SH, dt)) rfl ?_
  refine go_callq PM219 PM217 (Q' := _) rfl rfl rfl rfl (sp_X6_isRule L xs sio (d + 4) dt hI  p1 (by first | exact h_p1 | exact bnd h_p1 (by decide) (by decide) | exact ⟨by omega, by omega⟩) ) ?_
  rintro _ _ ⟨rfl, h1⟩
  refine ⟨rfl, ?_⟩
  rcases h1 with ⟨rfl, h1⟩ | ⟨rfl, h1⟩
  · skip
    refine go_toq PM219 (k := 2) (pc' := 8) (L' := [some (.inr (.inr (some 79))), some (.inl p1), some (.inl p2)]) (st' := [.inl p2]) (w' := (SH, dt)) rfl ?_
    refine go_callq PM219 PM217 (Q' := _) rfl rfl rfl rfl (sp_X6_isRule L xs sio (d + 4) dt hI  p2 (by first | exact h_p2 | exact bnd h_p2 (by decide) (by decide) | exact ⟨by omega, by omega⟩) ) ?_
    rintro _ _ ⟨rfl, h2⟩
    refine ⟨rfl, ?_⟩
    rcases h2 with ⟨rfl, h2⟩ | ⟨rfl, h2⟩
    · skip
      refine go_ifq PM219 (k := 3) (p1 := 28) (p2 := 19) (L' := [some (.inr (.inr (some 79))), some (.inl p1), some (.inl p2)]) (st' := []) (w' := (SH, dt)) rfl (c_eq (a := p1) (b := p2) (by first | exact bnd h_p1 (by decide) (by decide) | exact ⟨by omega, by omega⟩) (by first | exact bnd h_p2 (by decide) (by decide) | exact ⟨by omega, by omega⟩)) (fun c3 => ?_) (fun c3 => ?_)
      · skip
        refine go_retq PM219 (k := 1) (r := some (.inl (-1))) (w1 := (SH, dt)) rfl ?_
        first | exact ⟨dt, rfl, hI, hF, (Or.inl ⟨rfl, by first | exact True.intro | rfl | omega | trivial⟩)⟩ | exact ⟨dt, rfl, hI, hF, (Or.inr ⟨_, rfl, ⟨by decide, by decide⟩, ⟨by first | exact True.intro | rfl | omega | trivial, by first | exact True.intro | rfl | omega | trivial⟩⟩)⟩
      · skip
        refine go_toq PM219 (k := 3) (pc' := 22) (L' := [some (.inr (.inr (some 79))), some (.inl p1), some (.inl p2)]) (st' := [.inl p2, .inl p1, .inr (.inr (some 79))]) (w' := (SH, dt)) rfl ?_
        refine go_callq PM219 PM218 (Q' := _) rfl rfl rfl rfl (sp_X6_partedBy_f L xs sio (d + 0) dt hI hM  p1 (by first | exact h_p1 | exact bnd h_p1 (by decide) (by decide) | exact ⟨by omega, by omega⟩) p2 (by first | exact h_p2 | exact bnd h_p2 (by decide) (by decide) | exact ⟨by omega, by omega⟩) ) ?_
        rintro _ _ ⟨dt5, rfl, hI6, hF7, h4⟩
        refine ⟨rfl, ?_⟩
        have hF8 : Fr [88, 89, 90, 91, 92, 93, 94, 95, 96, 97, 98, 99, 100] dt dt5 := Fr_tr hF hF7 (by decide)
        rcases h4 with ⟨v_h4, rfl, h4r, h4⟩
        refine go_retq PM219 (k := 1) (r := some (.inl v_h4)) (w1 := (SH, dt5)) rfl ?_
        exact ⟨dt5, rfl, hI6, hF8, (Or.inr ⟨_, rfl, (by first | exact bnd h4r (by decide) (by decide) | exact ⟨by omega, by omega⟩), ⟨by first | exact True.intro | rfl | omega | trivial, by first | exact True.intro | rfl | omega | trivial⟩⟩)⟩
    · skip
      refine go_retq PM219 (k := 2) (r := some (.inl (-1))) (w1 := (SH, dt)) rfl ?_
      first | exact ⟨dt, rfl, hI, hF, (Or.inl ⟨rfl, by first | exact True.intro | rfl | omega | trivial⟩)⟩ | exact ⟨dt, rfl, hI, hF, (Or.inr ⟨_, rfl, ⟨by decide, by decide⟩, ⟨by first | exact True.intro | rfl | omega | trivial, by first | exact True.intro | rfl | omega | trivial⟩⟩)⟩
  · skip
    refine go_retq PM219 (k := 2) (r := some (.inl (-1))) (w1 := (SH, dt)) rfl ?_
    first | exact ⟨dt, rfl, hI, hF, (Or.inl ⟨rfl, by first | exact True.intro | rfl | omega | trivial⟩)⟩ | exact ⟨dt, rfl, hI, hF, (Or.inr ⟨_, rfl, ⟨by decide, by decide⟩, ⟨by first | exact True.intro | rfl | omega | trivial, by first | exact True.intro | rfl | omega | trivial⟩⟩)⟩
