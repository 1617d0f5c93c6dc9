theorem sp_X5_weighedChance_f (L : Nat) (xs : Nat → Int32) (sio : Option Nat) (d : Nat) (dt : Nat → Nat → Int) (hI : InvC dt) (F : Nat → Int) (hMF : MW F) (fa : Nat → Int) (l : Int) (p1 : Int) (h_p1 : 0 ≤ p1 ∧ p1 ≤ 11) (p2 : Int) (h_p2 : (-2147483648) ≤ p2 ∧ p2 ≤ 2147483647) (h_p0 : WGT (dt 72) (dt 71 1) F fa l) (h_p1 : SDL (dt 9) F) (h_p2 : p1 < dt 7 3) (h_p3 : dt 7 3 = F 1) : GO (am_XX L xs sio) (d + 2) 119 0 [some (.inr (.inr (some 0))), some (.inl p1), some (.inl p2), none, none, none, none] [] (SH, dt) (fun r w2 => w2 = (SH, dt) ∧ ((∃ v : Int, r = some (.inl v) ∧ (0 ≤ v ∧ v ≤ 1000) ∧ (v = CHF F fa l p1.toNat p2)))) := by
  have r1 : 0 ≤ dt 7 3 ∧ dt 7 3 ≤ 12 := InvC_get hI 7 3 rfl rfl
  have hs_ : ∀ r : Nat, r ≤ 10 → dt 9 (11 * p1.toNat + r) = SAID F p1.toNat (r : Int) := fun r hr => h_p1 p1.toNat (by omega) r hr
  have hw8_ := h_p0.2.1
  have ha_ := h_p0.2.2
  have bWS := WS_R8 (f := F) (fa := fa) (l := l) 8 (by decide)
  have b8_ := WH_R (f := F) (fa := fa) (l := l) (rule := 8)
  rw [if_pos rfl] at b8_
  have h0_ : dt 9 (((p1 * 11) + 0)).toNat = SAID F p1.toNat 0 := by rw [show (((p1 * 11) + 0)).toNat = 11 * p1.toNat + 0 by first | with_reducible assumption | omega]; exact hs_ 0 (by decide)
  have r2 : 0 ≤ dt 71 1 ∧ dt 71 1 ≤ 792 := InvC_get hI 71 1 rfl rfl
  refine go_ifq PM119 (k := 7) (p1 := 32) (p2 := 15) (L' := [some (.inr (.inr (some 0))), some (.inl p1), some (.inl p2), some (.inl (dt 71 1)), some (.inl 0), none, none]) (st' := []) (w' := (SH, dt)) rfl (z_ne (a := dt 71 1) (by first | exact bnd r2 (by decide) (by decide) | exact ⟨by fail, by fail⟩)) (fun c3 => ?_) (fun c3 => ?_)
  · skip
    have qc3 : 1 ≤ dt 71 1 := by omega
    replace c3 := hid c3
    refine go_toq PM119 (k := 2) (pc' := 35) (L' := [some (.inr (.inr (some 0))), some (.inl p1), some (.inl p2), some (.inl (dt 71 1)), some (.inl 0), some (.inl 0), none]) (st' := []) (w' := (SH, dt)) rfl ?_
    have loop13 : ∀ (k_ : Nat) (l35_4 : Int) (l35_5 : Int) (i9 : 0 ≤ l35_4 ∧ l35_4 ≤ 792) (i10 : 0 ≤ l35_5 ∧ l35_5 ≤ 8) (i11 : l35_4 = SOF (fun r => SAID F p1.toNat (r : Int)) (fun r => WH F fa l (r : Int)) p2 l35_5.toNat) (i12 : l35_4 ≤ 99 * l35_5), (9 - l35_5).toNat < k_ → GO (am_XX L xs sio) (d + 2) 119 35 [some (.inr (.inr (some 0))), some (.inl p1), some (.inl p2), some (.inl (dt 71 1)), some (.inl l35_4), some (.inl l35_5), none] [] (SH, dt) (fun r w2 => w2 = (SH, dt) ∧ ((∃ v : Int, r = some (.inl v) ∧ (0 ≤ v ∧ v ≤ 1000) ∧ (v = CHF F fa l p1.toNat p2)))) := by
      intro k_
      induction k_ with
      | zero => intro l35_4 l35_5 i9 i10 i11 i12 hm; exact absurd hm (Nat.not_lt_zero _)
      | succ k_ ih_loop13 =>
        intro l35_4 l35_5 i9 i10 i11 i12 hm
        have qS := i11
        have hS_ : l35_5 < 8 → dt 9 (((p1 * 11) + l35_5)).toNat = SAID F p1.toNat ((l35_5.toNat : Nat) : Int) := fun z_ => by rw [show (((p1 * 11) + l35_5)).toNat = 11 * p1.toNat + l35_5.toNat by first | with_reducible assumption | exact unhid (by with_reducible assumption) | omega]; exact hs_ l35_5.toNat (by omega)
        replace hS_ := hid hS_
        have hW_ : l35_5 < 8 → dt 72 l35_5.toNat = WH F fa l ((l35_5.toNat : Nat) : Int) := fun z_ => h_p0.1 l35_5.toNat (by omega)
        replace hW_ := hid hW_
        have hR_ : l35_5 < 8 → _ := fun (z_ : l35_5 < 8) => WH_R7 (f := F) (fa := fa) (l := l) (r := ((l35_5.toNat : Nat) : Int)) (by omega)
        have hY_ := SOF_y (S := (fun r => SAID F p1.toNat (r : Int))) (w := (fun r => WH F fa l (r : Int))) (a := p2) (r := l35_5) (by omega)
        have hN_ := SOF_n (S := (fun r => SAID F p1.toNat (r : Int))) (w := (fun r => WH F fa l (r : Int))) (a := p2) (r := l35_5) (by omega)
        refine go_ifq PM119 (k := 2) (p1 := 81) (p2 := 42) (L' := [some (.inr (.inr (some 0))), some (.inl p1), some (.inl p2), some (.inl (dt 71 1)), some (.inl l35_4), some (.inl l35_5), none]) (st' := []) (w' := (SH, dt)) rfl (c_ge (a := l35_5) (b := 8) (by first | exact bnd i10 (by decide) (by decide) | exact ⟨by fail, by fail⟩) ⟨by decide, by decide⟩) (fun c14 => ?_) (fun c14 => ?_)
        · skip
          refine go_toq PM119 (k := 4) (pc' := 90) (L' := [some (.inr (.inr (some 0))), some (.inl p1), some (.inl p2), some (.inl (dt 71 1)), some (.inl l35_4), some (.inl l35_5), none]) (st' := [.inl 8, .inr (.inr (some 72))]) (w' := (SH, dt)) rfl ?_
          have r15 : 0 ≤ dt 72 8 ∧ dt 72 8 ≤ 100 := InvC_get hI 72 8 rfl rfl
          refine go_smpq PM119 (L' := [some (.inr (.inr (some 0))), some (.inl p1), some (.inl p2), some (.inl (dt 71 1)), some (.inl l35_4), some (.inl l35_5), none]) (st' := [.inl (dt 72 8)]) (w' := (SH, dt)) rfl rfl (s_iald (n := 9) (f := dt 72) rfl ⟨by decide, by decide⟩) ?_
          refine go_toq PM119 (k := 12) (pc' := 110) (L' := [some (.inr (.inr (some 0))), some (.inl p1), some (.inl p2), some (.inl (dt 71 1)), some (.inl l35_4), some (.inl (dt 72 8)), some (.inl ((100 - (dt 72 8)) * l35_4))]) (st' := [.inl 0, .inl p1, .inr (.inr (some 1)), .inl p2]) (w' := (SH, dt)) rfl ?_
          refine go_callq PM119 PM1 (Q' := _) rfl rfl rfl rfl (sp_X0_saidOf_f L xs sio (d + 0) dt hI  p1 (by first | exact h_p1 | exact bnd h_p1 (by decide) (by decide) | exact ⟨by omega, by omega⟩) 0 ⟨by decide, by decide⟩ (by first | exact True.intro | with_reducible assumption | exact unhid (by with_reducible assumption) | rfl | fail | trivial)) ?_
          rintro _ _ ⟨rfl, h16⟩
          refine ⟨rfl, ?_⟩
          rcases h16 with ⟨rfl, h16⟩
          refine go_ifq PM119 (k := 0) (p1 := 125) (p2 := 116) (L' := [some (.inr (.inr (some 0))), some (.inl p1), some (.inl p2), some (.inl (dt 71 1)), some (.inl l35_4), some (.inl (dt 72 8)), some (.inl ((100 - (dt 72 8)) * l35_4))]) (st' := []) (w' := (SH, dt)) rfl (c_ne (a := p2) (b := dt 9 (((p1 * 11) + 0)).toNat) (by first | exact bnd h_p2 (by decide) (by decide) | exact ⟨by omega, by omega⟩) ⟨by omega, by omega⟩) (fun c17 => ?_) (fun c17 => ?_)
          · skip
            replace c17 := hid c17
            refine go_ifq PM119 (k := 1) (p1 := 139) (p2 := 129) (L' := [some (.inr (.inr (some 0))), some (.inl p1), some (.inl p2), some (.inl (dt 71 1)), some (.inl l35_4), some (.inl (dt 72 8)), some (.inl ((100 - (dt 72 8)) * l35_4))]) (st' := []) (w' := (SH, dt)) rfl (z_le (a := dt 71 1) (by first | exact bnd r2 (by decide) (by decide) | exact ⟨by fail, by fail⟩)) (fun c18 => ?_) (fun c18 => ?_)
            · exfalso; omega
            · skip
              refine go_toq PM119 (k := 4) (pc' := 135) (L' := [some (.inr (.inr (some 0))), some (.inl p1), some (.inl p2), some (.inl (dt 71 1)), some (.inl l35_4), some (.inl (dt 72 8)), some (.inl ((100 - (dt 72 8)) * l35_4))]) (st' := [.inl (dt 71 1), .inl (((100 - (dt 72 8)) * l35_4) * 10)]) (w' := (SH, dt)) rfl ?_
              refine go_smpq PM119 (L' := [some (.inr (.inr (some 0))), some (.inl p1), some (.inl p2), some (.inl (dt 71 1)), some (.inl l35_4), some (.inl (dt 72 8)), some (.inl ((100 - (dt 72 8)) * l35_4))]) (st' := [.inl ((wr (((100 - (dt 72 8)) * l35_4) * 10)).tdiv (wr (dt 71 1)))]) (w' := (SH, dt)) rfl rfl (s_idiv (by rw [wr_R ⟨by omega, by omega⟩]; omega)) ?_
              refine go_toq PM119 (k := 1) (pc' := 140) (L' := [some (.inr (.inr (some 0))), some (.inl p1), some (.inl p2), some (.inl (dt 71 1)), some (.inl l35_4), some (.inl (dt 72 8)), some (.inl ((100 - (dt 72 8)) * l35_4))]) (st' := [.inl ((wr (((100 - (dt 72 8)) * l35_4) * 10)).tdiv (wr (dt 71 1)))]) (w' := (SH, dt)) rfl ?_
              have hv_ : (wr (((100 - (dt 72 8)) * l35_4) * 10)).tdiv (wr (dt 71 1)) = CHF F fa l p1.toNat p2 := by unfold CHF CHP; rw [if_neg (by omega), ← hw8_, ← ha_, show SOF _ _ p2 8 = l35_4 from (by rw [qS, show l35_5.toNat = 8 by first | with_reducible assumption | exact unhid (by with_reducible assumption) | omega])]; first | (rw [if_pos (by fail)]; done) | (rw [if_neg (by (have z_ := unhid c17; omega)), Int.add_zero]; done)
              have hb_ := CHF_R (f := F) (fa := fa) (l := l) (a := p2) (q := p1.toNat)
              rw [← hv_] at hb_
              refine go_retq PM119 (k := 0) (r := some (.inl ((wr (((100 - (dt 72 8)) * l35_4) * 10)).tdiv (wr (dt 71 1))))) (w1 := (SH, dt)) rfl ?_
              exact ⟨rfl, ⟨_, rfl, ⟨by omega, by omega⟩, by exact hv_⟩⟩
          · skip
            refine go_ifq PM119 (k := 7) (p1 := 139) (p2 := 129) (L' := [some (.inr (.inr (some 0))), some (.inl p1), some (.inl p2), some (.inl (dt 71 1)), some (.inl l35_4), some (.inl (dt 72 8)), some (.inl (((100 - (dt 72 8)) * l35_4) + ((dt 72 8) * (dt 71 1))))]) (st' := []) (w' := (SH, dt)) rfl (z_le (a := dt 71 1) (by first | exact bnd r2 (by decide) (by decide) | exact ⟨by fail, by fail⟩)) (fun c19 => ?_) (fun c19 => ?_)
            · exfalso; omega
            · skip
              refine go_toq PM119 (k := 4) (pc' := 135) (L' := [some (.inr (.inr (some 0))), some (.inl p1), some (.inl p2), some (.inl (dt 71 1)), some (.inl l35_4), some (.inl (dt 72 8)), some (.inl (((100 - (dt 72 8)) * l35_4) + ((dt 72 8) * (dt 71 1))))]) (st' := [.inl (dt 71 1), .inl ((((100 - (dt 72 8)) * l35_4) + ((dt 72 8) * (dt 71 1))) * 10)]) (w' := (SH, dt)) rfl ?_
              refine go_smpq PM119 (L' := [some (.inr (.inr (some 0))), some (.inl p1), some (.inl p2), some (.inl (dt 71 1)), some (.inl l35_4), some (.inl (dt 72 8)), some (.inl (((100 - (dt 72 8)) * l35_4) + ((dt 72 8) * (dt 71 1))))]) (st' := [.inl ((wr ((((100 - (dt 72 8)) * l35_4) + ((dt 72 8) * (dt 71 1))) * 10)).tdiv (wr (dt 71 1)))]) (w' := (SH, dt)) rfl rfl (s_idiv (by rw [wr_R ⟨by omega, by omega⟩]; omega)) ?_
              refine go_toq PM119 (k := 1) (pc' := 140) (L' := [some (.inr (.inr (some 0))), some (.inl p1), some (.inl p2), some (.inl (dt 71 1)), some (.inl l35_4), some (.inl (dt 72 8)), some (.inl (((100 - (dt 72 8)) * l35_4) + ((dt 72 8) * (dt 71 1))))]) (st' := [.inl ((wr ((((100 - (dt 72 8)) * l35_4) + ((dt 72 8) * (dt 71 1))) * 10)).tdiv (wr (dt 71 1)))]) (w' := (SH, dt)) rfl ?_
              have hv_ : (wr ((((100 - (dt 72 8)) * l35_4) + ((dt 72 8) * (dt 71 1))) * 10)).tdiv (wr (dt 71 1)) = CHF F fa l p1.toNat p2 := by unfold CHF CHP; rw [if_neg (by omega), ← hw8_, ← ha_, show SOF _ _ p2 8 = l35_4 from (by rw [qS, show l35_5.toNat = 8 by first | with_reducible assumption | exact unhid (by with_reducible assumption) | omega])]; first | (rw [if_pos (by omega)]; done) | (rw [if_neg (by fail), Int.add_zero]; done)
              have hb_ := CHF_R (f := F) (fa := fa) (l := l) (a := p2) (q := p1.toNat)
              rw [← hv_] at hb_
              refine go_retq PM119 (k := 0) (r := some (.inl ((wr ((((100 - (dt 72 8)) * l35_4) + ((dt 72 8) * (dt 71 1))) * 10)).tdiv (wr (dt 71 1))))) (w1 := (SH, dt)) rfl ?_
              exact ⟨rfl, ⟨_, rfl, ⟨by omega, by omega⟩, by exact hv_⟩⟩
        · skip
          refine go_toq PM119 (k := 5) (pc' := 51) (L' := [some (.inr (.inr (some 0))), some (.inl p1), some (.inl p2), some (.inl (dt 71 1)), some (.inl l35_4), some (.inl l35_5), none]) (st' := [.inl l35_5, .inl p1, .inr (.inr (some 1)), .inl l35_4]) (w' := (SH, dt)) rfl ?_
          refine go_callq PM119 PM1 (Q' := _) rfl rfl rfl rfl (sp_X0_saidOf_f L xs sio (d + 0) dt hI  p1 (by first | exact h_p1 | exact bnd h_p1 (by decide) (by decide) | exact ⟨by omega, by omega⟩) l35_5 (by first | exact bnd i10 (by decide) (by decide) | exact bndd i10 c14 (by decide) (by decide) | exact ⟨by fail, by fail⟩) (by first | exact True.intro | with_reducible assumption | exact unhid (by with_reducible assumption) | rfl | fail | trivial)) ?_
          rintro _ _ ⟨rfl, h20⟩
          refine ⟨rfl, ?_⟩
          rcases h20 with ⟨rfl, h20⟩
          refine go_ifq PM119 (k := 1) (p1 := 71) (p2 := 58) (L' := [some (.inr (.inr (some 0))), some (.inl p1), some (.inl p2), some (.inl (dt 71 1)), some (.inl l35_4), some (.inl l35_5), none]) (st' := [.inl l35_4]) (w' := (SH, dt)) rfl (c_ne (a := dt 9 (((p1 * 11) + l35_5)).toNat) (b := p2) ⟨by omega, by omega⟩ (by first | exact bnd h_p2 (by decide) (by decide) | exact ⟨by omega, by omega⟩)) (fun c21 => ?_) (fun c21 => ?_)
          · skip
            replace c21 := hid c21
            refine go_toq PM119 (k := 5) (pc' := 35) (L' := [some (.inr (.inr (some 0))), some (.inl p1), some (.inl p2), some (.inl (dt 71 1)), some (.inl (l35_4 + 0)), some (.inl (l35_5 + 1)), none]) (st' := []) (w' := (SH, dt)) rfl ?_
            have u2_ := hid (And.intro (unhid c3) (And.intro (unhid hS_) (And.intro (unhid hW_) (unhid c21))))
            exact GO.le (ih_loop13 (l35_4 + 0) (l35_5 + 1) (by first | omega | rfl) (by first | omega | rfl) (by first | (have z_ := unhid u2_; omega) | rfl) (by first | omega | rfl) (by omega)) ⟨.inl rfl, .inl rfl, .inl rfl, .inl rfl, .inl rfl, .inl rfl, .inl rfl, trivial⟩
          · skip
            refine go_toq PM119 (k := 4) (pc' := 67) (L' := [some (.inr (.inr (some 0))), some (.inl p1), some (.inl p2), some (.inl (dt 71 1)), some (.inl l35_4), some (.inl l35_5), none]) (st' := [.inl l35_5, .inr (.inr (some 72)), .inl l35_4]) (w' := (SH, dt)) rfl ?_
            have r22 : 0 ≤ dt 72 (l35_5).toNat ∧ dt 72 (l35_5).toNat ≤ 100 := InvC_get hI 72 (l35_5).toNat rfl rfl
            refine go_smpq PM119 (L' := [some (.inr (.inr (some 0))), some (.inl p1), some (.inl p2), some (.inl (dt 71 1)), some (.inl l35_4), some (.inl l35_5), none]) (st' := [.inl (dt 72 (l35_5).toNat), .inl l35_4]) (w' := (SH, dt)) rfl rfl (s_iald (n := 9) (f := dt 72) rfl (by first | exact bndc i10 c14 (by decide) (by decide) | exact bndx i10 (by decide) (by decide) | exact ⟨by fail, by fail⟩)) ?_
            refine go_toq PM119 (k := 5) (pc' := 35) (L' := [some (.inr (.inr (some 0))), some (.inl p1), some (.inl p2), some (.inl (dt 71 1)), some (.inl (l35_4 + (dt 72 (l35_5).toNat))), some (.inl (l35_5 + 1)), none]) (st' := []) (w' := (SH, dt)) rfl ?_
            exact GO.le (ih_loop13 (l35_4 + (dt 72 (l35_5).toNat)) (l35_5 + 1) (by first | (have z_ := unhid hW_; omega) | rfl) (by first | omega | rfl) (by first | (have z0_ := unhid c3; have z1_ := unhid hS_; have z2_ := unhid hW_; omega) | rfl) (by first | (have z_ := unhid hW_; omega) | rfl) (by omega)) ⟨.inl rfl, .inl rfl, .inl rfl, .inl rfl, .inl rfl, .inl rfl, .inl rfl, trivial⟩
    exact GO.le (loop13 _ 0 0 (by first | omega | rfl) (by first | omega | rfl) (by first | fail | rfl) (by first | omega | rfl) (Nat.lt_succ_self _)) ⟨.inl rfl, .inl rfl, .inl rfl, .inl rfl, .inl rfl, .inl rfl, .inl rfl, trivial⟩
  · skip
    refine go_ifq PM119 (k := 4) (p1 := 26) (p2 := 22) (L' := [some (.inr (.inr (some 0))), some (.inl p1), some (.inl p2), some (.inl 4), some (.inl 0), none, none]) (st' := []) (w' := (SH, dt)) rfl (c_ne (a := p2) (b := (-1)) (by first | exact bnd h_p2 (by decide) (by decide) | exact ⟨by omega, by omega⟩) ⟨by decide, by decide⟩) (fun c23 => ?_) (fun c23 => ?_)
    · skip
      replace c23 := hid c23
      refine go_toq PM119 (k := 7) (pc' := 90) (L' := [some (.inr (.inr (some 0))), some (.inl p1), some (.inl p2), some (.inl 4), some (.inl 1), none, none]) (st' := [.inl 8, .inr (.inr (some 72))]) (w' := (SH, dt)) rfl ?_
      have r24 : 0 ≤ dt 72 8 ∧ dt 72 8 ≤ 100 := InvC_get hI 72 8 rfl rfl
      refine go_smpq PM119 (L' := [some (.inr (.inr (some 0))), some (.inl p1), some (.inl p2), some (.inl 4), some (.inl 1), none, none]) (st' := [.inl (dt 72 8)]) (w' := (SH, dt)) rfl rfl (s_iald (n := 9) (f := dt 72) rfl ⟨by decide, by decide⟩) ?_
      refine go_toq PM119 (k := 12) (pc' := 110) (L' := [some (.inr (.inr (some 0))), some (.inl p1), some (.inl p2), some (.inl 4), some (.inl 1), some (.inl (dt 72 8)), some (.inl ((100 - (dt 72 8)) * 1))]) (st' := [.inl 0, .inl p1, .inr (.inr (some 1)), .inl p2]) (w' := (SH, dt)) rfl ?_
      refine go_callq PM119 PM1 (Q' := _) rfl rfl rfl rfl (sp_X0_saidOf_f L xs sio (d + 0) dt hI  p1 (by first | exact h_p1 | exact bnd h_p1 (by decide) (by decide) | exact ⟨by omega, by omega⟩) 0 ⟨by decide, by decide⟩ (by first | exact True.intro | with_reducible assumption | exact unhid (by with_reducible assumption) | rfl | fail | trivial)) ?_
      rintro _ _ ⟨rfl, h25⟩
      refine ⟨rfl, ?_⟩
      rcases h25 with ⟨rfl, h25⟩
      refine go_ifq PM119 (k := 0) (p1 := 125) (p2 := 116) (L' := [some (.inr (.inr (some 0))), some (.inl p1), some (.inl p2), some (.inl 4), some (.inl 1), some (.inl (dt 72 8)), some (.inl ((100 - (dt 72 8)) * 1))]) (st' := []) (w' := (SH, dt)) rfl (c_ne (a := p2) (b := dt 9 (((p1 * 11) + 0)).toNat) (by first | exact bnd h_p2 (by decide) (by decide) | exact ⟨by omega, by omega⟩) ⟨by omega, by omega⟩) (fun c26 => ?_) (fun c26 => ?_)
      · skip
        replace c26 := hid c26
        refine go_toq PM119 (k := 6) (pc' := 135) (L' := [some (.inr (.inr (some 0))), some (.inl p1), some (.inl p2), some (.inl 4), some (.inl 1), some (.inl (dt 72 8)), some (.inl ((100 - (dt 72 8)) * 1))]) (st' := [.inl 4, .inl (((100 - (dt 72 8)) * 1) * 10)]) (w' := (SH, dt)) rfl ?_
        refine go_smpq PM119 (L' := [some (.inr (.inr (some 0))), some (.inl p1), some (.inl p2), some (.inl 4), some (.inl 1), some (.inl (dt 72 8)), some (.inl ((100 - (dt 72 8)) * 1))]) (st' := [.inl ((((100 - (dt 72 8)) * 1) * 10) / 4)]) (w' := (SH, dt)) rfl rfl (s_idivc ⟨by omega, by omega⟩ ⟨by omega, by omega⟩) ?_
        refine go_toq PM119 (k := 1) (pc' := 140) (L' := [some (.inr (.inr (some 0))), some (.inl p1), some (.inl p2), some (.inl 4), some (.inl 1), some (.inl (dt 72 8)), some (.inl ((100 - (dt 72 8)) * 1))]) (st' := [.inl ((((100 - (dt 72 8)) * 1) * 10) / 4)]) (w' := (SH, dt)) rfl ?_
        have hv_ : (((100 - (dt 72 8)) * 1) * 10) / 4 = CHF F fa l p1.toNat p2 := by unfold CHF; rw [if_pos (by omega), CHP_e ⟨by decide, by decide⟩ ⟨by omega, by omega⟩ (by split <;> omega)]; (repeat (first | rw [if_pos (by fail)] | rw [if_neg (by (have z0_ := unhid c23; have z1_ := unhid c26; omega))])); omega
        have hb_ := CHF_R (f := F) (fa := fa) (l := l) (a := p2) (q := p1.toNat)
        rw [← hv_] at hb_
        refine go_retq PM119 (k := 0) (r := some (.inl ((((100 - (dt 72 8)) * 1) * 10) / 4))) (w1 := (SH, dt)) rfl ?_
        exact ⟨rfl, ⟨_, rfl, ⟨by omega, by omega⟩, by exact hv_⟩⟩
      · skip
        refine go_toq PM119 (k := 12) (pc' := 135) (L' := [some (.inr (.inr (some 0))), some (.inl p1), some (.inl p2), some (.inl 4), some (.inl 1), some (.inl (dt 72 8)), some (.inl (((100 - (dt 72 8)) * 1) + ((dt 72 8) * 4)))]) (st' := [.inl 4, .inl ((((100 - (dt 72 8)) * 1) + ((dt 72 8) * 4)) * 10)]) (w' := (SH, dt)) rfl ?_
        refine go_smpq PM119 (L' := [some (.inr (.inr (some 0))), some (.inl p1), some (.inl p2), some (.inl 4), some (.inl 1), some (.inl (dt 72 8)), some (.inl (((100 - (dt 72 8)) * 1) + ((dt 72 8) * 4)))]) (st' := [.inl (((((100 - (dt 72 8)) * 1) + ((dt 72 8) * 4)) * 10) / 4)]) (w' := (SH, dt)) rfl rfl (s_idivc ⟨by omega, by omega⟩ ⟨by omega, by omega⟩) ?_
        refine go_toq PM119 (k := 1) (pc' := 140) (L' := [some (.inr (.inr (some 0))), some (.inl p1), some (.inl p2), some (.inl 4), some (.inl 1), some (.inl (dt 72 8)), some (.inl (((100 - (dt 72 8)) * 1) + ((dt 72 8) * 4)))]) (st' := [.inl (((((100 - (dt 72 8)) * 1) + ((dt 72 8) * 4)) * 10) / 4)]) (w' := (SH, dt)) rfl ?_
        have hv_ : ((((100 - (dt 72 8)) * 1) + ((dt 72 8) * 4)) * 10) / 4 = CHF F fa l p1.toNat p2 := by unfold CHF; rw [if_pos (by omega), CHP_e ⟨by decide, by decide⟩ ⟨by omega, by omega⟩ (by split <;> omega)]; (repeat (first | rw [if_pos (by omega)] | rw [if_neg (by (have z_ := unhid c23; omega))])); omega
        have hb_ := CHF_R (f := F) (fa := fa) (l := l) (a := p2) (q := p1.toNat)
        rw [← hv_] at hb_
        refine go_retq PM119 (k := 0) (r := some (.inl (((((100 - (dt 72 8)) * 1) + ((dt 72 8) * 4)) * 10) / 4))) (w1 := (SH, dt)) rfl ?_
        exact ⟨rfl, ⟨_, rfl, ⟨by omega, by omega⟩, by exact hv_⟩⟩
    · skip
      refine go_toq PM119 (k := 8) (pc' := 90) (L' := [some (.inr (.inr (some 0))), some (.inl p1), some (.inl p2), some (.inl 4), some (.inl 0), none, none]) (st' := [.inl 8, .inr (.inr (some 72))]) (w' := (SH, dt)) rfl ?_
      have r27 : 0 ≤ dt 72 8 ∧ dt 72 8 ≤ 100 := InvC_get hI 72 8 rfl rfl
      refine go_smpq PM119 (L' := [some (.inr (.inr (some 0))), some (.inl p1), some (.inl p2), some (.inl 4), some (.inl 0), none, none]) (st' := [.inl (dt 72 8)]) (w' := (SH, dt)) rfl rfl (s_iald (n := 9) (f := dt 72) rfl ⟨by decide, by decide⟩) ?_
      refine go_toq PM119 (k := 12) (pc' := 110) (L' := [some (.inr (.inr (some 0))), some (.inl p1), some (.inl p2), some (.inl 4), some (.inl 0), some (.inl (dt 72 8)), some (.inl ((100 - (dt 72 8)) * 0))]) (st' := [.inl 0, .inl p1, .inr (.inr (some 1)), .inl p2]) (w' := (SH, dt)) rfl ?_
      refine go_callq PM119 PM1 (Q' := _) rfl rfl rfl rfl (sp_X0_saidOf_f L xs sio (d + 0) dt hI  p1 (by first | exact h_p1 | exact bnd h_p1 (by decide) (by decide) | exact ⟨by omega, by omega⟩) 0 ⟨by decide, by decide⟩ (by first | exact True.intro | with_reducible assumption | rfl | fail | trivial)) ?_
      rintro _ _ ⟨rfl, h28⟩
      refine ⟨rfl, ?_⟩
      rcases h28 with ⟨rfl, h28⟩
      refine go_ifq PM119 (k := 0) (p1 := 125) (p2 := 116) (L' := [some (.inr (.inr (some 0))), some (.inl p1), some (.inl p2), some (.inl 4), some (.inl 0), some (.inl (dt 72 8)), some (.inl ((100 - (dt 72 8)) * 0))]) (st' := []) (w' := (SH, dt)) rfl (c_ne (a := p2) (b := dt 9 (((p1 * 11) + 0)).toNat) (by first | exact bnd h_p2 (by decide) (by decide) | exact ⟨by omega, by omega⟩) ⟨by omega, by omega⟩) (fun c29 => ?_) (fun c29 => ?_)
      · skip
        replace c29 := hid c29
        refine go_toq PM119 (k := 6) (pc' := 135) (L' := [some (.inr (.inr (some 0))), some (.inl p1), some (.inl p2), some (.inl 4), some (.inl 0), some (.inl (dt 72 8)), some (.inl ((100 - (dt 72 8)) * 0))]) (st' := [.inl 4, .inl (((100 - (dt 72 8)) * 0) * 10)]) (w' := (SH, dt)) rfl ?_
        refine go_smpq PM119 (L' := [some (.inr (.inr (some 0))), some (.inl p1), some (.inl p2), some (.inl 4), some (.inl 0), some (.inl (dt 72 8)), some (.inl ((100 - (dt 72 8)) * 0))]) (st' := [.inl ((((100 - (dt 72 8)) * 0) * 10) / 4)]) (w' := (SH, dt)) rfl rfl (s_idivc ⟨by omega, by omega⟩ ⟨by omega, by omega⟩) ?_
        refine go_toq PM119 (k := 1) (pc' := 140) (L' := [some (.inr (.inr (some 0))), some (.inl p1), some (.inl p2), some (.inl 4), some (.inl 0), some (.inl (dt 72 8)), some (.inl ((100 - (dt 72 8)) * 0))]) (st' := [.inl ((((100 - (dt 72 8)) * 0) * 10) / 4)]) (w' := (SH, dt)) rfl ?_
        have hv_ : (((100 - (dt 72 8)) * 0) * 10) / 4 = CHF F fa l p1.toNat p2 := by unfold CHF; rw [if_pos (by omega), CHP_e ⟨by decide, by decide⟩ ⟨by omega, by omega⟩ (by split <;> omega)]; (repeat (first | rw [if_pos (by omega)] | rw [if_neg (by (have z_ := unhid c29; omega))])); omega
        have hb_ := CHF_R (f := F) (fa := fa) (l := l) (a := p2) (q := p1.toNat)
        rw [← hv_] at hb_
        refine go_retq PM119 (k := 0) (r := some (.inl ((((100 - (dt 72 8)) * 0) * 10) / 4))) (w1 := (SH, dt)) rfl ?_
        exact ⟨rfl, ⟨_, rfl, ⟨by omega, by omega⟩, by exact hv_⟩⟩
      · skip
        refine go_toq PM119 (k := 12) (pc' := 135) (L' := [some (.inr (.inr (some 0))), some (.inl p1), some (.inl p2), some (.inl 4), some (.inl 0), some (.inl (dt 72 8)), some (.inl (((100 - (dt 72 8)) * 0) + ((dt 72 8) * 4)))]) (st' := [.inl 4, .inl ((((100 - (dt 72 8)) * 0) + ((dt 72 8) * 4)) * 10)]) (w' := (SH, dt)) rfl ?_
        refine go_smpq PM119 (L' := [some (.inr (.inr (some 0))), some (.inl p1), some (.inl p2), some (.inl 4), some (.inl 0), some (.inl (dt 72 8)), some (.inl (((100 - (dt 72 8)) * 0) + ((dt 72 8) * 4)))]) (st' := [.inl (((((100 - (dt 72 8)) * 0) + ((dt 72 8) * 4)) * 10) / 4)]) (w' := (SH, dt)) rfl rfl (s_idivc ⟨by omega, by omega⟩ ⟨by omega, by omega⟩) ?_
        refine go_toq PM119 (k := 1) (pc' := 140) (L' := [some (.inr (.inr (some 0))), some (.inl p1), some (.inl p2), some (.inl 4), some (.inl 0), some (.inl (dt 72 8)), some (.inl (((100 - (dt 72 8)) * 0) + ((dt 72 8) * 4)))]) (st' := [.inl (((((100 - (dt 72 8)) * 0) + ((dt 72 8) * 4)) * 10) / 4)]) (w' := (SH, dt)) rfl ?_
        have hv_ : ((((100 - (dt 72 8)) * 0) + ((dt 72 8) * 4)) * 10) / 4 = CHF F fa l p1.toNat p2 := by unfold CHF; rw [if_pos (by omega), CHP_e ⟨by decide, by decide⟩ ⟨by omega, by omega⟩ (by split <;> omega)]; (repeat (first | rw [if_pos (by omega)] | rw [if_neg (by fail)])); omega
        have hb_ := CHF_R (f := F) (fa := fa) (l := l) (a := p2) (q := p1.toNat)
        rw [← hv_] at hb_
        refine go_retq PM119 (k := 0) (r := some (.inl (((((100 - (dt 72 8)) * 0) + ((dt 72 8) * 4)) * 10) / 4))) (w1 := (SH, dt)) rfl ?_
        exact ⟨rfl, ⟨_, rfl, ⟨by omega, by omega⟩, by exact hv_⟩⟩
theorem sp_X5_chance_f (L : Nat) (xs : Nat → Int32) (sio : Option Nat) (d : Nat) (dt : Nat → Nat → Int) (hI : InvC dt) (F : Nat → Int) (hMF : MW F) (p1 : Int) (h_p1 : (-2147483648) ≤ p1 ∧ p1 ≤ 2147483647) (p2 : Int) (h_p2 : (-2147483648) ≤ p2 ∧ p2 ≤ 2147483647) (p3 : Int) (h_p3 : (-2147483648) ≤ p3 ∧ p3 ≤ 2147483647) (p4 : Int) (h_p4 : (-2147483648) ≤ p4 ∧ p4 ≤ 2147483647) (p5 : Int) (h_p5 : (-2147483648) ≤ p5 ∧ p5 ≤ 2147483647) (h_p0 : ALK dt F) : GO (am_XX L xs sio) (d + 5) 82 0 [some (.inr (.inr (some 0))), some (.inl p1), some (.inl p2), some (.inl p3), some (.inl p4), some (.inl p5)] [] (SH, dt) (fun r w2 => ∃ dt2 : Nat → Nat → Int, w2 = (SH, dt2) ∧ InvC dt2 ∧ Fr [71, 72, 73, 74] dt dt2 ∧ ((r = some (.inl (-1)) ∧ (¬ ((0 ≤ p1 ∧ p1 ≤ 3) ∧ (0 ≤ p2 ∧ p2 < dt 10 3) ∧ (0 ≤ p3 ∧ p3 < dt 7 3) ∧ (0 ≤ p4 ∧ p4 ≤ 3) ∧ ((-1) ≤ p5 ∧ p5 ≤ 3)))) ∨ (∃ v : Int, r = some (.inl v) ∧ (0 ≤ v ∧ v ≤ 1000) ∧ ((0 ≤ p1 ∧ p1 ≤ 3) ∧ (0 ≤ p2 ∧ p2 < dt 10 3) ∧ (0 ≤ p3 ∧ p3 < dt 7 3) ∧ (0 ≤ p4 ∧ p4 ≤ 3) ∧ ((-1) ≤ p5 ∧ p5 ≤ 3)) ∧ (v = CHN F p1 p2 p3 p4 p5)))) := by
  have hF : Fr [71, 72, 73, 74] dt dt := Fr_refl
  have r1 : 0 ≤ dt 7 3 ∧ dt 7 3 ≤ 12 := InvC_get hI 7 3 rfl rfl
  have r2 : 0 ≤ dt 10 3 ∧ dt 10 3 ≤ 40 := InvC_get hI 10 3 rfl rfl
  refine go_toq PM82 (k := 1) (pc' := 1) (L' := [some (.inr (.inr (some 0))), some (.inl p1), some (.inl p2), some (.inl p3), some (.inl p4), some (.inl p5)]) (st' := [.inl p1]) (w' := (SH, dt)) rfl ?_
  refine go_callq PM82 PM103 (Q' := _) rfl rfl rfl rfl (sp_X5_isLaw L xs sio (d + 3) dt hI  p1 (by first | exact h_p1 | exact bnd h_p1 (by decide) (by decide) | exact ⟨by fail, by fail⟩) ) ?_
  rintro _ _ ⟨rfl, h3⟩
  refine ⟨rfl, ?_⟩
  rcases h3 with ⟨rfl, h3⟩ | ⟨rfl, h3⟩
  · skip
    refine go_toq PM82 (k := 5) (pc' := 12) (L' := [some (.inr (.inr (some 0))), some (.inl p1), some (.inl p2), some (.inl p3), some (.inl p4), some (.inl p5)]) (st' := [.inl p4, .inl p3, .inl p2, .inr (.inr (some 0))]) (w' := (SH, dt)) rfl ?_
    refine go_callq PM82 PM108 (Q' := _) rfl rfl rfl rfl (sp_X5_canAsk L xs sio (d + 3) dt hI  p2 (by first | exact h_p2 | exact bnd h_p2 (by decide) (by decide) | exact ⟨by fail, by fail⟩) p3 (by first | exact h_p3 | exact bnd h_p3 (by decide) (by decide) | exact ⟨by fail, by fail⟩) p4 (by first | exact h_p4 | exact bnd h_p4 (by decide) (by decide) | exact ⟨by fail, by fail⟩) ) ?_
    rintro _ _ ⟨rfl, h4⟩
    refine ⟨rfl, ?_⟩
    rcases h4 with ⟨rfl, h4⟩ | ⟨rfl, h4⟩
    · skip
      refine go_toq PM82 (k := 2) (pc' := 20) (L' := [some (.inr (.inr (some 0))), some (.inl p1), some (.inl p2), some (.inl p3), some (.inl p4), some (.inl p5)]) (st' := [.inl p5]) (w' := (SH, dt)) rfl ?_
      refine go_callq PM82 PM107 (Q' := _) rfl rfl rfl rfl (sp_X5_isAnswer L xs sio (d + 3) dt hI  p5 (by first | exact h_p5 | exact bnd h_p5 (by decide) (by decide) | exact ⟨by fail, by fail⟩) ) ?_
      rintro _ _ ⟨rfl, h5⟩
      refine ⟨rfl, ?_⟩
      rcases h5 with ⟨rfl, h5⟩ | ⟨rfl, h5⟩
      · skip
        refine go_toq PM82 (k := 6) (pc' := 34) (L' := [some (.inr (.inr (some 0))), some (.inl p1), some (.inl p2), some (.inl p3), some (.inl p4), some (.inl p5)]) (st' := [.inl p4, .inl p3, .inl p2, .inl p1, .inr (.inr (some 0))]) (w' := (SH, dt)) rfl ?_
        refine go_callq PM82 PM118 (Q' := _) rfl rfl rfl rfl (sp_X5_weigh_f L xs sio (d + 0) dt hI F hMF p1 (by first | exact h_p1 | exact bnd h_p1 (by decide) (by decide) | exact ⟨by omega, by omega⟩) p2 (by first | exact h_p2 | exact bnd h_p2 (by decide) (by decide) | exact ⟨by omega, by omega⟩) p3 (by first | exact h_p3 | exact bnd h_p3 (by decide) (by decide) | exact ⟨by omega, by omega⟩) p4 (by first | exact h_p4 | exact bnd h_p4 (by decide) (by decide) | exact ⟨by omega, by omega⟩) (by first | exact True.intro | with_reducible assumption | rfl | fail | trivial | exact h_p0 | exact hI | (rw [show dt 9 = dt 9 from funext (hF 9 (by decide))]; exact h_p0.2.2.1) | (rw [show dt 7 3 = dt 7 3 from hF 7 (by decide) 3]; first | fail | exact h_p0.2.2.2.2.1)) (by first | exact True.intro | with_reducible assumption | rfl | omega | trivial | exact h_p0 | exact hI | (rw [show dt 9 = dt 9 from funext (hF 9 (by decide))]; exact h_p0.2.2.1) | (rw [show dt 7 3 = dt 7 3 from hF 7 (by decide) 3]; first | fail | exact h_p0.2.2.2.2.1)) (by first | exact True.intro | with_reducible assumption | rfl | omega | trivial | exact h_p0 | exact hI | (rw [show dt 9 = dt 9 from funext (hF 9 (by decide))]; exact h_p0.2.2.1) | (rw [show dt 7 3 = dt 7 3 from hF 7 (by decide) 3]; first | fail | exact h_p0.2.2.2.2.1))) ?_
        rintro _ _ ⟨dt7, rfl, hI8, hF9, h6⟩
        refine ⟨rfl, ?_⟩
        have hF10 : Fr [71, 72, 73, 74] dt dt7 := Fr_tr hF hF9 (by decide)
        rcases h6 with ⟨rfl, h6⟩
        refine go_toq PM82 (k := 3) (pc' := 41) (L' := [some (.inr (.inr (some 0))), some (.inl p1), some (.inl p2), some (.inl p3), some (.inl p4), some (.inl p5)]) (st' := [.inl p5, .inl p3, .inr (.inr (some 0))]) (w' := (SH, dt7)) rfl ?_
        refine go_callq PM82 PM119 (Q' := _) rfl rfl rfl rfl (sp_X5_weighedChance_f L xs sio (d + 2) dt7 hI8 F hMF (FQ F p2 p3 p4) p1 p3 (by first | exact h_p3 | exact bnd h_p3 (by decide) (by decide) | exact ⟨by omega, by omega⟩) p5 (by first | exact h_p5 | exact bnd h_p5 (by decide) (by decide) | exact ⟨by fail, by fail⟩) (by first | exact True.intro | with_reducible assumption | rfl | fail | trivial | exact h_p0 | exact h6 | (rw [show dt7 9 = dt 9 from funext (hF10 9 (by decide))]; exact h_p0.2.2.1) | (rw [show dt7 7 3 = dt 7 3 from hF10 7 (by decide) 3]; first | fail | exact h_p0.2.2.2.2.1)) (by first | exact True.intro | with_reducible assumption | rfl | fail | trivial | exact h_p0 | exact h6 | (rw [show dt7 9 = dt 9 from funext (hF10 9 (by decide))]; exact h_p0.2.2.1) | (rw [show dt7 7 3 = dt 7 3 from hF10 7 (by decide) 3]; first | fail | exact h_p0.2.2.2.2.1)) (by first | exact True.intro | with_reducible assumption | rfl | fail | trivial | exact h_p0 | exact h6 | (rw [show dt7 9 = dt 9 from funext (hF10 9 (by decide))]; exact h_p0.2.2.1) | (rw [show dt7 7 3 = dt 7 3 from hF10 7 (by decide) 3]; first | omega | exact h_p0.2.2.2.2.1)) (by first | exact True.intro | with_reducible assumption | rfl | fail | trivial | exact h_p0 | exact h6 | (rw [show dt7 9 = dt 9 from funext (hF10 9 (by decide))]; exact h_p0.2.2.1) | (rw [show dt7 7 3 = dt 7 3 from hF10 7 (by decide) 3]; first | fail | exact h_p0.2.2.2.2.1))) ?_
        rintro _ _ ⟨rfl, h11⟩
        refine ⟨rfl, ?_⟩
        rcases h11 with ⟨v_h11, rfl, h11r, h11⟩
        refine go_retq PM82 (k := 0) (r := some (.inl v_h11)) (w1 := (SH, dt7)) rfl ?_
        exact ⟨dt7, rfl, hI8, hF10, (Or.inr ⟨_, rfl, (by first | exact bnd h11r (by decide) (by decide) | exact ⟨by fail, by fail⟩), ⟨by first | exact True.intro | with_reducible assumption | rfl | omega | trivial, by exact (h11).trans CHN_F.symm⟩⟩)⟩
      · skip
        refine go_retq PM82 (k := 2) (r := some (.inl (-1))) (w1 := (SH, dt)) rfl ?_
        first | exact ⟨dt, rfl, hI, hF, (Or.inl ⟨rfl, by first | exact True.intro | with_reducible assumption | rfl | omega | trivial⟩)⟩ | exact ⟨dt, rfl, hI, hF, (Or.inr ⟨_, rfl, ⟨by decide, by decide⟩, ⟨by first | exact True.intro | with_reducible assumption | rfl | fail | trivial, by exact (hI).trans CHN_F.symm⟩⟩)⟩
    · skip
      refine go_retq PM82 (k := 2) (r := some (.inl (-1))) (w1 := (SH, dt)) rfl ?_
      first | exact ⟨dt, rfl, hI, hF, (Or.inl ⟨rfl, by first | exact True.intro | with_reducible assumption | rfl | omega | trivial⟩)⟩ | exact ⟨dt, rfl, hI, hF, (Or.inr ⟨_, rfl, ⟨by decide, by decide⟩, ⟨by first | exact True.intro | with_reducible assumption | rfl | fail | trivial, by exact (hI).trans CHN_F.symm⟩⟩)⟩
  · skip
    refine go_retq PM82 (k := 2) (r := some (.inl (-1))) (w1 := (SH, dt)) rfl ?_
    first | exact ⟨dt, rfl, hI, hF, (Or.inl ⟨rfl, by first | exact True.intro | with_reducible assumption | rfl | omega | trivial⟩)⟩ | exact ⟨dt, rfl, hI, hF, (Or.inr ⟨_, rfl, ⟨by decide, by decide⟩, ⟨by first | exact True.intro | with_reducible assumption | rfl | fail | trivial, by exact (hI).trans CHN_F.symm⟩⟩)⟩
