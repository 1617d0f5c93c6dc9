theorem sp_X5_state (L : Nat) (xs : Nat → Int32) (sio : Option Nat) (d : Nat) (dt : Nat → Nat → Int) (hI : InvC dt)  (p1 : Int) (h_p1 : (-2147483648) ≤ p1 ∧ p1 ≤ 2147483647)  : GO (am_XX L xs sio) (d) 67 0 [some (.inr (.inr (some 0))), some (.inl p1), none] [] (SH, dt) (fun r w2 => ∃ dt2 : Nat → Nat → Int, w2 = (SH, dt2) ∧ InvC dt2 ∧ Fr [1] dt dt2 ∧ ((r = some (.inl (dt 1 0)) ∧ (dt2 1 0 = p1)))) := by
  have hF : Fr [1] dt dt := Fr_refl
  have r1 : (-2147483648) ≤ dt 1 0 ∧ dt 1 0 ≤ 2147483647 := InvC_get hI 1 0 rfl rfl
  refine go_toq PM67 (k := 7) (pc' := 13) (L' := [some (.inr (.inr (some 0))), some (.inl p1), some (.inl (dt 1 0))]) (st' := [.inl p1, .inr (.inr (some 1))]) (w' := (SH, dt)) rfl ?_
  have hI2 : InvC (u2 dt 1 0 p1) := InvC_u2 hI (lo := -2147483648) (hi := 2147483647) rfl rfl rfl (by first | exact bnd1 h_p1 (by decide) | fail) (by first | exact bnd2 h_p1 (by decide) | fail)
  have hF3 : Fr [1] dt (u2 dt 1 0 p1) := Fr_u2 hF (by decide)
  have w4 : (u2 dt 1 0 p1) 1 0 = p1 := rfl
  refine go_smpq PM67 (L' := [some (.inr (.inr (some 0))), some (.inl p1), some (.inl (dt 1 0))]) (st' := []) (w' := (SH, (u2 dt 1 0 p1))) rfl rfl (s_pf rfl rfl rfl rfl (by first | exact bnd h_p1 (by decide) (by decide) | exact ⟨by fail, by fail⟩)) ?_
  refine go_retq PM67 (k := 1) (r := some (.inl (dt 1 0))) (w1 := (SH, (u2 dt 1 0 p1))) rfl ?_
  exact ⟨(u2 dt 1 0 p1), rfl, hI2, hF3, ⟨rfl, by first | exact True.intro | with_reducible assumption | rfl | fail | trivial⟩⟩
theorem sp_X5_after (L : Nat) (xs : Nat → Int32) (sio : Option Nat) (d : Nat) (dt : Nat → Nat → Int) (hI : InvC dt)  (p1 : Int) (h_p1 : (-2147483648) ≤ p1 ∧ p1 ≤ 2147483647) (p2 : Int) (h_p2 : (-2147483648) ≤ p2 ∧ p2 ≤ 2147483647) (p3 : Int) (h_p3 : (-2147483648) ≤ p3 ∧ p3 ≤ 2147483647) (p4 : Int) (h_p4 : (-2147483648) ≤ p4 ∧ p4 ≤ 2147483647)  : GO (am_XX L xs sio) (d + 5) 72 0 [some (.inr (.inr (some 0))), some (.inl p1), some (.inl p2), some (.inl p3), some (.inl p4), none] [] (SH, dt) (fun r w2 => ∃ dt2 : Nat → Nat → Int, w2 = (SH, dt2) ∧ InvC dt2 ∧ Fr [44, 45, 46, 47, 48, 49, 50, 51, 52, 53, 54, 55, 56] dt dt2 ∧ ((∃ v : Int, r = some (.inl v) ∧ ((-2147483648) ≤ v ∧ v ≤ 2147483647) ∧ True))) := by
  have hF : Fr [44, 45, 46, 47, 48, 49, 50, 51, 52, 53, 54, 55, 56] dt dt := Fr_refl
  refine go_toq PM72 (k := 1) (pc' := 1) (L' := [some (.inr (.inr (some 0))), some (.inl p1), some (.inl p2), some (.inl p3), some (.inl p4), none]) (st' := [.inl p1]) (w' := (SH, dt)) rfl ?_
  refine go_callq PM72 PM102 (Q' := _) rfl rfl rfl rfl (sp_X5_isScene L xs sio (d + 3) dt hI  p1 (by first | exact h_p1 | exact bnd h_p1 (by decide) (by decide) | exact ⟨by fail, by fail⟩) ) ?_
  rintro _ _ ⟨rfl, h1⟩
  refine ⟨rfl, ?_⟩
  rcases h1 with ⟨rfl, h1⟩ | ⟨rfl, h1⟩
  · skip
    refine go_toq PM72 (k := 2) (pc' := 8) (L' := [some (.inr (.inr (some 0))), some (.inl p1), some (.inl p2), some (.inl p3), some (.inl p4), none]) (st' := [.inl p2]) (w' := (SH, dt)) rfl ?_
    refine go_callq PM72 PM104 (Q' := _) rfl rfl rfl rfl (sp_X5_isThing L xs sio (d + 3) dt hI  p2 (by first | exact h_p2 | exact bnd h_p2 (by decide) (by decide) | exact ⟨by fail, by fail⟩) ) ?_
    rintro _ _ ⟨rfl, h2⟩
    refine ⟨rfl, ?_⟩
    rcases h2 with ⟨rfl, h2⟩ | ⟨rfl, h2⟩
    · skip
      refine go_toq PM72 (k := 2) (pc' := 15) (L' := [some (.inr (.inr (some 0))), some (.inl p1), some (.inl p2), some (.inl p3), some (.inl p4), none]) (st' := [.inl p3]) (w' := (SH, dt)) rfl ?_
      refine go_callq PM72 PM105 (Q' := _) rfl rfl rfl rfl (sp_X5_isWho L xs sio (d + 3) dt hI  p3 (by first | exact h_p3 | exact bnd h_p3 (by decide) (by decide) | exact ⟨by fail, by fail⟩) ) ?_
      rintro _ _ ⟨rfl, h3⟩
      refine ⟨rfl, ?_⟩
      rcases h3 with ⟨rfl, h3⟩ | ⟨rfl, h3⟩
      · skip
        refine go_toq PM72 (k := 3) (pc' := 26) (L' := [some (.inr (.inr (some 0))), some (.inl p1), some (.inl p2), some (.inl p3), some (.inl p4), none]) (st' := [.inl p1, .inr (.inr (some 0))]) (w' := (SH, dt)) rfl ?_
        refine go_callq PM72 PM113 (Q' := _) rfl rfl rfl rfl (sp_X5_play L xs sio (d + 0) dt hI  p1 (by first | exact h_p1 | exact bnd h_p1 (by decide) (by decide) | exact ⟨by fail, by fail⟩) ) ?_
        rintro _ _ ⟨dt5, rfl, hI6, hF7, h4⟩
        refine ⟨rfl, ?_⟩
        have hF8 : Fr [44, 45, 46, 47, 48, 49, 50, 51, 52, 53, 54, 55, 56] dt dt5 := Fr_tr hF hF7 (by decide)
        rcases h4 with ⟨rfl, h4⟩
        have r9 := wr_RR p4
        refine go_toq PM72 (k := 7) (pc' := 38) (L' := [some (.inr (.inr (some 0))), some (.inl p1), some (.inl p2), some (.inl p3), some (.inl p4), some (.inl ((p3 * 3) + p2))]) (st' := [.inl p4]) (w' := (SH, dt5)) rfl ?_
        have e11 : wr p4 = p4 := wr_R ⟨by omega, by omega⟩
        by_cases c10 : wr p4 < 0 ∨ 9 < wr p4
        · refine go_swoq PM72 (p1 := 198) (lo := 0) (hi := 9) rfl rfl c10 ?_
          refine go_retq PM72 (k := 1) (r := some (.inl (-2))) (w1 := (SH, dt5)) rfl ?_
          exact ⟨dt5, rfl, hI6, hF8, ⟨_, rfl, ⟨by decide, by decide⟩, trivial⟩⟩
        · have c12 : wr p4 = 0 ∨ wr p4 = 1 ∨ wr p4 = 2 ∨ wr p4 = 3 ∨ wr p4 = 4 ∨ wr p4 = 5 ∨ wr p4 = 6 ∨ wr p4 = 7 ∨ wr p4 = 8 ∨ wr p4 = 9 := by omega
          rcases c12 with c12 | c12 | c12 | c12 | c12 | c12 | c12 | c12 | c12 | c12
          · refine go_swiq PM72 (v := 0) (p1 := 92) (lo := 0) (hi := 9) rfl c12 (by decide) rfl ?_
            refine go_toq PM72 (k := 4) (pc' := 100) (L' := [some (.inr (.inr (some 0))), some (.inl p1), some (.inl p2), some (.inl p3), some (.inl p4), some (.inl ((p3 * 3) + p2))]) (st' := [.inl p2, .inr (.inr (some 47))]) (w' := (SH, dt5)) rfl ?_
            have r13 : (-2147483648) ≤ dt5 47 (p2).toNat ∧ dt5 47 (p2).toNat ≤ 2147483647 := InvC_get hI6 47 (p2).toNat rfl rfl
            refine go_smpq PM72 (L' := [some (.inr (.inr (some 0))), some (.inl p1), some (.inl p2), some (.inl p3), some (.inl p4), some (.inl ((p3 * 3) + p2))]) (st' := [.inl (dt5 47 (p2).toNat)]) (w' := (SH, dt5)) rfl rfl (s_iald (n := 3) (f := dt5 47) rfl (by first | exact bndx h_p2 (by decide) (by decide) | exact ⟨by omega, by omega⟩)) ?_
            refine go_retq PM72 (k := 0) (r := some (.inl (dt5 47 (p2).toNat))) (w1 := (SH, dt5)) rfl ?_
            exact ⟨dt5, rfl, hI6, hF8, ⟨_, rfl, (by first | exact bnd r13 (by decide) (by decide) | exact ⟨by fail, by fail⟩), trivial⟩⟩
          · refine go_swiq PM72 (v := 1) (p1 := 102) (lo := 0) (hi := 9) rfl c12 (by decide) rfl ?_
            refine go_toq PM72 (k := 4) (pc' := 111) (L' := [some (.inr (.inr (some 0))), some (.inl p1), some (.inl p2), some (.inl p3), some (.inl p4), some (.inl ((p3 * 3) + p2))]) (st' := [.inl ((p3 * 3) + p2), .inr (.inr (some 52))]) (w' := (SH, dt5)) rfl ?_
            have r14 : (-2147483648) ≤ dt5 52 (((p3 * 3) + p2).toNat) ∧ dt5 52 (((p3 * 3) + p2).toNat) ≤ 2147483647 := InvC_get hI6 52 (((p3 * 3) + p2).toNat) rfl rfl
            refine go_smpq PM72 (L' := [some (.inr (.inr (some 0))), some (.inl p1), some (.inl p2), some (.inl p3), some (.inl p4), some (.inl ((p3 * 3) + p2))]) (st' := [.inl (dt5 52 (((p3 * 3) + p2).toNat))]) (w' := (SH, dt5)) rfl rfl (s_iald (n := 12) (f := dt5 52) rfl ⟨by omega, by omega⟩) ?_
            refine go_retq PM72 (k := 0) (r := some (.inl (dt5 52 (((p3 * 3) + p2).toNat)))) (w1 := (SH, dt5)) rfl ?_
            exact ⟨dt5, rfl, hI6, hF8, ⟨_, rfl, (by first | exact bnd r14 (by decide) (by decide) | exact ⟨by fail, by fail⟩), trivial⟩⟩
          · refine go_swiq PM72 (v := 2) (p1 := 113) (lo := 0) (hi := 9) rfl c12 (by decide) rfl ?_
            refine go_toq PM72 (k := 4) (pc' := 122) (L' := [some (.inr (.inr (some 0))), some (.inl p1), some (.inl p2), some (.inl p3), some (.inl p4), some (.inl ((p3 * 3) + p2))]) (st' := [.inl ((p3 * 3) + p2), .inr (.inr (some 53))]) (w' := (SH, dt5)) rfl ?_
            have r15 : (-2147483648) ≤ dt5 53 (((p3 * 3) + p2).toNat) ∧ dt5 53 (((p3 * 3) + p2).toNat) ≤ 2147483647 := InvC_get hI6 53 (((p3 * 3) + p2).toNat) rfl rfl
            refine go_smpq PM72 (L' := [some (.inr (.inr (some 0))), some (.inl p1), some (.inl p2), some (.inl p3), some (.inl p4), some (.inl ((p3 * 3) + p2))]) (st' := [.inl (dt5 53 (((p3 * 3) + p2).toNat))]) (w' := (SH, dt5)) rfl rfl (s_iald (n := 12) (f := dt5 53) rfl ⟨by omega, by omega⟩) ?_
            refine go_retq PM72 (k := 0) (r := some (.inl (dt5 53 (((p3 * 3) + p2).toNat)))) (w1 := (SH, dt5)) rfl ?_
            exact ⟨dt5, rfl, hI6, hF8, ⟨_, rfl, (by first | exact bnd r15 (by decide) (by decide) | exact ⟨by fail, by fail⟩), trivial⟩⟩
          · refine go_swiq PM72 (v := 3) (p1 := 124) (lo := 0) (hi := 9) rfl c12 (by decide) rfl ?_
            refine go_toq PM72 (k := 4) (pc' := 133) (L' := [some (.inr (.inr (some 0))), some (.inl p1), some (.inl p2), some (.inl p3), some (.inl p4), some (.inl ((p3 * 3) + p2))]) (st' := [.inl ((p3 * 3) + p2), .inr (.inr (some 54))]) (w' := (SH, dt5)) rfl ?_
            have r16 : (-2147483648) ≤ dt5 54 (((p3 * 3) + p2).toNat) ∧ dt5 54 (((p3 * 3) + p2).toNat) ≤ 2147483647 := InvC_get hI6 54 (((p3 * 3) + p2).toNat) rfl rfl
            refine go_smpq PM72 (L' := [some (.inr (.inr (some 0))), some (.inl p1), some (.inl p2), some (.inl p3), some (.inl p4), some (.inl ((p3 * 3) + p2))]) (st' := [.inl (dt5 54 (((p3 * 3) + p2).toNat))]) (w' := (SH, dt5)) rfl rfl (s_iald (n := 12) (f := dt5 54) rfl ⟨by omega, by omega⟩) ?_
            refine go_retq PM72 (k := 0) (r := some (.inl (dt5 54 (((p3 * 3) + p2).toNat)))) (w1 := (SH, dt5)) rfl ?_
            exact ⟨dt5, rfl, hI6, hF8, ⟨_, rfl, (by first | exact bnd r16 (by decide) (by decide) | exact ⟨by fail, by fail⟩), trivial⟩⟩
          · refine go_swiq PM72 (v := 4) (p1 := 135) (lo := 0) (hi := 9) rfl c12 (by decide) rfl ?_
            refine go_toq PM72 (k := 4) (pc' := 144) (L' := [some (.inr (.inr (some 0))), some (.inl p1), some (.inl p2), some (.inl p3), some (.inl p4), some (.inl ((p3 * 3) + p2))]) (st' := [.inl ((p3 * 3) + p2), .inr (.inr (some 55))]) (w' := (SH, dt5)) rfl ?_
            have r17 : (-2147483648) ≤ dt5 55 (((p3 * 3) + p2).toNat) ∧ dt5 55 (((p3 * 3) + p2).toNat) ≤ 2147483647 := InvC_get hI6 55 (((p3 * 3) + p2).toNat) rfl rfl
            refine go_smpq PM72 (L' := [some (.inr (.inr (some 0))), some (.inl p1), some (.inl p2), some (.inl p3), some (.inl p4), some (.inl ((p3 * 3) + p2))]) (st' := [.inl (dt5 55 (((p3 * 3) + p2).toNat))]) (w' := (SH, dt5)) rfl rfl (s_iald (n := 12) (f := dt5 55) rfl ⟨by omega, by omega⟩) ?_
            refine go_retq PM72 (k := 0) (r := some (.inl (dt5 55 (((p3 * 3) + p2).toNat)))) (w1 := (SH, dt5)) rfl ?_
            exact ⟨dt5, rfl, hI6, hF8, ⟨_, rfl, (by first | exact bnd r17 (by decide) (by decide) | exact ⟨by fail, by fail⟩), trivial⟩⟩
          · refine go_swiq PM72 (v := 5) (p1 := 146) (lo := 0) (hi := 9) rfl c12 (by decide) rfl ?_
            refine go_toq PM72 (k := 4) (pc' := 154) (L' := [some (.inr (.inr (some 0))), some (.inl p1), some (.inl p2), some (.inl p3), some (.inl p4), some (.inl ((p3 * 3) + p2))]) (st' := [.inl p2, .inr (.inr (some 50))]) (w' := (SH, dt5)) rfl ?_
            have r18 : (-2147483648) ≤ dt5 50 (p2).toNat ∧ dt5 50 (p2).toNat ≤ 2147483647 := InvC_get hI6 50 (p2).toNat rfl rfl
            refine go_smpq PM72 (L' := [some (.inr (.inr (some 0))), some (.inl p1), some (.inl p2), some (.inl p3), some (.inl p4), some (.inl ((p3 * 3) + p2))]) (st' := [.inl (dt5 50 (p2).toNat)]) (w' := (SH, dt5)) rfl rfl (s_iald (n := 3) (f := dt5 50) rfl (by first | exact bndx h_p2 (by decide) (by decide) | exact ⟨by omega, by omega⟩)) ?_
            refine go_retq PM72 (k := 0) (r := some (.inl (dt5 50 (p2).toNat))) (w1 := (SH, dt5)) rfl ?_
            exact ⟨dt5, rfl, hI6, hF8, ⟨_, rfl, (by first | exact bnd r18 (by decide) (by decide) | exact ⟨by fail, by fail⟩), trivial⟩⟩
          · refine go_swiq PM72 (v := 6) (p1 := 156) (lo := 0) (hi := 9) rfl c12 (by decide) rfl ?_
            refine go_toq PM72 (k := 4) (pc' := 164) (L' := [some (.inr (.inr (some 0))), some (.inl p1), some (.inl p2), some (.inl p3), some (.inl p4), some (.inl ((p3 * 3) + p2))]) (st' := [.inl p2, .inr (.inr (some 51))]) (w' := (SH, dt5)) rfl ?_
            have r19 : (-2147483648) ≤ dt5 51 (p2).toNat ∧ dt5 51 (p2).toNat ≤ 2147483647 := InvC_get hI6 51 (p2).toNat rfl rfl
            refine go_smpq PM72 (L' := [some (.inr (.inr (some 0))), some (.inl p1), some (.inl p2), some (.inl p3), some (.inl p4), some (.inl ((p3 * 3) + p2))]) (st' := [.inl (dt5 51 (p2).toNat)]) (w' := (SH, dt5)) rfl rfl (s_iald (n := 6) (f := dt5 51) rfl (by first | exact bndx h_p2 (by decide) (by decide) | exact ⟨by omega, by omega⟩)) ?_
            refine go_retq PM72 (k := 0) (r := some (.inl (dt5 51 (p2).toNat))) (w1 := (SH, dt5)) rfl ?_
            exact ⟨dt5, rfl, hI6, hF8, ⟨_, rfl, (by first | exact bnd r19 (by decide) (by decide) | exact ⟨by fail, by fail⟩), trivial⟩⟩
          · refine go_swiq PM72 (v := 7) (p1 := 166) (lo := 0) (hi := 9) rfl c12 (by decide) rfl ?_
            refine go_toq PM72 (k := 6) (pc' := 176) (L' := [some (.inr (.inr (some 0))), some (.inl p1), some (.inl p2), some (.inl p3), some (.inl p4), some (.inl ((p3 * 3) + p2))]) (st' := [.inl (3 + p2), .inr (.inr (some 51))]) (w' := (SH, dt5)) rfl ?_
            have r20 : (-2147483648) ≤ dt5 51 ((3 + p2).toNat) ∧ dt5 51 ((3 + p2).toNat) ≤ 2147483647 := InvC_get hI6 51 ((3 + p2).toNat) rfl rfl
            refine go_smpq PM72 (L' := [some (.inr (.inr (some 0))), some (.inl p1), some (.inl p2), some (.inl p3), some (.inl p4), some (.inl ((p3 * 3) + p2))]) (st' := [.inl (dt5 51 ((3 + p2).toNat))]) (w' := (SH, dt5)) rfl rfl (s_iald (n := 6) (f := dt5 51) rfl ⟨by omega, by omega⟩) ?_
            refine go_retq PM72 (k := 0) (r := some (.inl (dt5 51 ((3 + p2).toNat)))) (w1 := (SH, dt5)) rfl ?_
            exact ⟨dt5, rfl, hI6, hF8, ⟨_, rfl, (by first | exact bnd r20 (by decide) (by decide) | exact ⟨by fail, by fail⟩), trivial⟩⟩
          · refine go_swiq PM72 (v := 8) (p1 := 178) (lo := 0) (hi := 9) rfl c12 (by decide) rfl ?_
            refine go_toq PM72 (k := 4) (pc' := 186) (L' := [some (.inr (.inr (some 0))), some (.inl p1), some (.inl p2), some (.inl p3), some (.inl p4), some (.inl ((p3 * 3) + p2))]) (st' := [.inl p2, .inr (.inr (some 48))]) (w' := (SH, dt5)) rfl ?_
            have r21 : (-2147483648) ≤ dt5 48 (p2).toNat ∧ dt5 48 (p2).toNat ≤ 2147483647 := InvC_get hI6 48 (p2).toNat rfl rfl
            refine go_smpq PM72 (L' := [some (.inr (.inr (some 0))), some (.inl p1), some (.inl p2), some (.inl p3), some (.inl p4), some (.inl ((p3 * 3) + p2))]) (st' := [.inl (dt5 48 (p2).toNat)]) (w' := (SH, dt5)) rfl rfl (s_iald (n := 3) (f := dt5 48) rfl (by first | exact bndx h_p2 (by decide) (by decide) | exact ⟨by omega, by omega⟩)) ?_
            refine go_retq PM72 (k := 0) (r := some (.inl (dt5 48 (p2).toNat))) (w1 := (SH, dt5)) rfl ?_
            exact ⟨dt5, rfl, hI6, hF8, ⟨_, rfl, (by first | exact bnd r21 (by decide) (by decide) | exact ⟨by fail, by fail⟩), trivial⟩⟩
          · refine go_swiq PM72 (v := 9) (p1 := 188) (lo := 0) (hi := 9) rfl c12 (by decide) rfl ?_
            refine go_toq PM72 (k := 4) (pc' := 196) (L' := [some (.inr (.inr (some 0))), some (.inl p1), some (.inl p2), some (.inl p3), some (.inl p4), some (.inl ((p3 * 3) + p2))]) (st' := [.inl p2, .inr (.inr (some 49))]) (w' := (SH, dt5)) rfl ?_
            have r22 : (-2147483648) ≤ dt5 49 (p2).toNat ∧ dt5 49 (p2).toNat ≤ 2147483647 := InvC_get hI6 49 (p2).toNat rfl rfl
            refine go_smpq PM72 (L' := [some (.inr (.inr (some 0))), some (.inl p1), some (.inl p2), some (.inl p3), some (.inl p4), some (.inl ((p3 * 3) + p2))]) (st' := [.inl (dt5 49 (p2).toNat)]) (w' := (SH, dt5)) rfl rfl (s_iald (n := 3) (f := dt5 49) rfl (by first | exact bndx h_p2 (by decide) (by decide) | exact ⟨by omega, by omega⟩)) ?_
            refine go_retq PM72 (k := 0) (r := some (.inl (dt5 49 (p2).toNat))) (w1 := (SH, dt5)) rfl ?_
            exact ⟨dt5, rfl, hI6, hF8, ⟨_, rfl, (by first | exact bnd r22 (by decide) (by decide) | exact ⟨by fail, by fail⟩), trivial⟩⟩
      · skip
        refine go_retq PM72 (k := 2) (r := some (.inl (-2))) (w1 := (SH, dt)) rfl ?_
        exact ⟨dt, rfl, hI, hF, ⟨_, rfl, ⟨by decide, by decide⟩, trivial⟩⟩
    · skip
      refine go_retq PM72 (k := 2) (r := some (.inl (-2))) (w1 := (SH, dt)) rfl ?_
      exact ⟨dt, rfl, hI, hF, ⟨_, rfl, ⟨by decide, by decide⟩, trivial⟩⟩
  · skip
    refine go_retq PM72 (k := 2) (r := some (.inl (-2))) (w1 := (SH, dt)) rfl ?_
    exact ⟨dt, rfl, hI, hF, ⟨_, rfl, ⟨by decide, by decide⟩, trivial⟩⟩
theorem sp_X5_thinks (L : Nat) (xs : Nat → Int32) (sio : Option Nat) (d : Nat) (dt : Nat → Nat → Int) (hI : InvC dt)  (p1 : Int) (h_p1 : (-2147483648) ≤ p1 ∧ p1 ≤ 2147483647) (p2 : Int) (h_p2 : (-2147483648) ≤ p2 ∧ p2 ≤ 2147483647) (p3 : Int) (h_p3 : (-2147483648) ≤ p3 ∧ p3 ≤ 2147483647) (p4 : Int) (h_p4 : (-2147483648) ≤ p4 ∧ p4 ≤ 2147483647)  : GO (am_XX L xs sio) (d + 5) 73 0 [some (.inr (.inr (some 0))), some (.inl p1), some (.inl p2), some (.inl p3), some (.inl p4)] [] (SH, dt) (fun r w2 => ∃ dt2 : Nat → Nat → Int, w2 = (SH, dt2) ∧ InvC dt2 ∧ Fr [44, 45, 46, 47, 48, 49, 50, 51, 52, 53, 54, 55, 56] dt dt2 ∧ ((∃ v : Int, r = some (.inl v) ∧ ((-2147483648) ≤ v ∧ v ≤ 2147483647) ∧ True))) := by
  have hF : Fr [44, 45, 46, 47, 48, 49, 50, 51, 52, 53, 54, 55, 56] dt dt := Fr_refl
  refine go_toq PM73 (k := 1) (pc' := 1) (L' := [some (.inr (.inr (some 0))), some (.inl p1), some (.inl p2), some (.inl p3), some (.inl p4)]) (st' := [.inl p1]) (w' := (SH, dt)) rfl ?_
  refine go_callq PM73 PM102 (Q' := _) rfl rfl rfl rfl (sp_X5_isScene L xs sio (d + 3) dt hI  p1 (by first | exact h_p1 | exact bnd h_p1 (by decide) (by decide) | exact ⟨by fail, by fail⟩) ) ?_
  rintro _ _ ⟨rfl, h1⟩
  refine ⟨rfl, ?_⟩
  rcases h1 with ⟨rfl, h1⟩ | ⟨rfl, h1⟩
  · skip
    refine go_toq PM73 (k := 2) (pc' := 8) (L' := [some (.inr (.inr (some 0))), some (.inl p1), some (.inl p2), some (.inl p3), some (.inl p4)]) (st' := [.inl p2]) (w' := (SH, dt)) rfl ?_
    refine go_callq PM73 PM105 (Q' := _) rfl rfl rfl rfl (sp_X5_isWho L xs sio (d + 3) dt hI  p2 (by first | exact h_p2 | exact bnd h_p2 (by decide) (by decide) | exact ⟨by fail, by fail⟩) ) ?_
    rintro _ _ ⟨rfl, h2⟩
    refine ⟨rfl, ?_⟩
    rcases h2 with ⟨rfl, h2⟩ | ⟨rfl, h2⟩
    · skip
      refine go_toq PM73 (k := 2) (pc' := 15) (L' := [some (.inr (.inr (some 0))), some (.inl p1), some (.inl p2), some (.inl p3), some (.inl p4)]) (st' := [.inl p3]) (w' := (SH, dt)) rfl ?_
      refine go_callq PM73 PM105 (Q' := _) rfl rfl rfl rfl (sp_X5_isWho L xs sio (d + 3) dt hI  p3 (by first | exact h_p3 | exact bnd h_p3 (by decide) (by decide) | exact ⟨by fail, by fail⟩) ) ?_
      rintro _ _ ⟨rfl, h3⟩
      refine ⟨rfl, ?_⟩
      rcases h3 with ⟨rfl, h3⟩ | ⟨rfl, h3⟩
      · skip
        refine go_ifq PM73 (k := 3) (p1 := 34) (p2 := 26) (L' := [some (.inr (.inr (some 0))), some (.inl p1), some (.inl p2), some (.inl p3), some (.inl p4)]) (st' := []) (w' := (SH, dt)) rfl (c_eq (a := p2) (b := p3) (by first | exact bnd h_p2 (by decide) (by decide) | exact ⟨by fail, by fail⟩) (by first | exact bnd h_p3 (by decide) (by decide) | exact ⟨by fail, by fail⟩)) (fun c4 => ?_) (fun c4 => ?_)
        · skip
          refine go_retq PM73 (k := 1) (r := some (.inl (-2))) (w1 := (SH, dt)) rfl ?_
          exact ⟨dt, rfl, hI, hF, ⟨_, rfl, ⟨by decide, by decide⟩, trivial⟩⟩
        · skip
          replace c4 := hid c4
          refine go_toq PM73 (k := 1) (pc' := 28) (L' := [some (.inr (.inr (some 0))), some (.inl p1), some (.inl p2), some (.inl p3), some (.inl p4)]) (st' := [.inl p4]) (w' := (SH, dt)) rfl ?_
          refine go_callq PM73 PM104 (Q' := _) rfl rfl rfl rfl (sp_X5_isThing L xs sio (d + 3) dt hI  p4 (by first | exact h_p4 | exact bnd h_p4 (by decide) (by decide) | exact ⟨by fail, by fail⟩) ) ?_
          rintro _ _ ⟨rfl, h5⟩
          refine ⟨rfl, ?_⟩
          rcases h5 with ⟨rfl, h5⟩ | ⟨rfl, h5⟩
          · skip
            refine go_toq PM73 (k := 3) (pc' := 39) (L' := [some (.inr (.inr (some 0))), some (.inl p1), some (.inl p2), some (.inl p3), some (.inl p4)]) (st' := [.inl p1, .inr (.inr (some 0))]) (w' := (SH, dt)) rfl ?_
            refine go_callq PM73 PM113 (Q' := _) rfl rfl rfl rfl (sp_X5_play L xs sio (d + 0) dt hI  p1 (by first | exact h_p1 | exact bnd h_p1 (by decide) (by decide) | exact ⟨by fail, by fail⟩) ) ?_
            rintro _ _ ⟨dt7, rfl, hI8, hF9, h6⟩
            refine ⟨rfl, ?_⟩
            have hF10 : Fr [44, 45, 46, 47, 48, 49, 50, 51, 52, 53, 54, 55, 56] dt dt7 := Fr_tr hF hF9 (by decide)
            rcases h6 with ⟨rfl, h6⟩
            refine go_toq PM73 (k := 12) (pc' := 59) (L' := [some (.inr (.inr (some 0))), some (.inl p1), some (.inl p2), some (.inl p3), some (.inl p4)]) (st' := [.inl ((((p2 * 4) + p3) * 3) + p4), .inr (.inr (some 56))]) (w' := (SH, dt7)) rfl ?_
            have r11 : (-2147483648) ≤ dt7 56 (((((p2 * 4) + p3) * 3) + p4).toNat) ∧ dt7 56 (((((p2 * 4) + p3) * 3) + p4).toNat) ≤ 2147483647 := InvC_get hI8 56 (((((p2 * 4) + p3) * 3) + p4).toNat) rfl rfl
            refine go_smpq PM73 (L' := [some (.inr (.inr (some 0))), some (.inl p1), some (.inl p2), some (.inl p3), some (.inl p4)]) (st' := [.inl (dt7 56 (((((p2 * 4) + p3) * 3) + p4).toNat))]) (w' := (SH, dt7)) rfl rfl (s_iald (n := 48) (f := dt7 56) rfl ⟨by omega, by omega⟩) ?_
            refine go_retq PM73 (k := 0) (r := some (.inl (dt7 56 (((((p2 * 4) + p3) * 3) + p4).toNat)))) (w1 := (SH, dt7)) rfl ?_
            exact ⟨dt7, rfl, hI8, hF10, ⟨_, rfl, (by first | exact bnd r11 (by decide) (by decide) | exact ⟨by fail, by fail⟩), trivial⟩⟩
          · skip
            refine go_retq PM73 (k := 2) (r := some (.inl (-2))) (w1 := (SH, dt)) rfl ?_
            exact ⟨dt, rfl, hI, hF, ⟨_, rfl, ⟨by decide, by decide⟩, trivial⟩⟩
      · skip
        refine go_retq PM73 (k := 2) (r := some (.inl (-2))) (w1 := (SH, dt)) rfl ?_
        exact ⟨dt, rfl, hI, hF, ⟨_, rfl, ⟨by decide, by decide⟩, trivial⟩⟩
    · skip
      refine go_retq PM73 (k := 2) (r := some (.inl (-2))) (w1 := (SH, dt)) rfl ?_
      exact ⟨dt, rfl, hI, hF, ⟨_, rfl, ⟨by decide, by decide⟩, trivial⟩⟩
  · skip
    refine go_retq PM73 (k := 2) (r := some (.inl (-2))) (w1 := (SH, dt)) rfl ?_
    exact ⟨dt, rfl, hI, hF, ⟨_, rfl, ⟨by decide, by decide⟩, trivial⟩⟩
theorem sp_X5_here (L : Nat) (xs : Nat → Int32) (sio : Option Nat) (d : Nat) (dt : Nat → Nat → Int) (hI : InvC dt)  (p1 : Int) (h_p1 : (-2147483648) ≤ p1 ∧ p1 ≤ 2147483647) (p2 : Int) (h_p2 : (-2147483648) ≤ p2 ∧ p2 ≤ 2147483647) (p3 : Int) (h_p3 : (-2147483648) ≤ p3 ∧ p3 ≤ 2147483647)  : GO (am_XX L xs sio) (d + 5) 74 0 [some (.inr (.inr (some 0))), some (.inl p1), some (.inl p2), some (.inl p3)] [] (SH, dt) (fun r w2 => ∃ dt2 : Nat → Nat → Int, w2 = (SH, dt2) ∧ InvC dt2 ∧ Fr [44, 45, 46, 47, 48, 49, 50, 51, 52, 53, 54, 55, 56] dt dt2 ∧ ((∃ v : Int, r = some (.inl v) ∧ ((-2147483648) ≤ v ∧ v ≤ 2147483647) ∧ True))) := by
  have hF : Fr [44, 45, 46, 47, 48, 49, 50, 51, 52, 53, 54, 55, 56] dt dt := Fr_refl
  refine go_toq PM74 (k := 1) (pc' := 1) (L' := [some (.inr (.inr (some 0))), some (.inl p1), some (.inl p2), some (.inl p3)]) (st' := [.inl p1]) (w' := (SH, dt)) rfl ?_
  refine go_callq PM74 PM102 (Q' := _) rfl rfl rfl rfl (sp_X5_isScene L xs sio (d + 3) dt hI  p1 (by first | exact h_p1 | exact bnd h_p1 (by decide) (by decide) | exact ⟨by fail, by fail⟩) ) ?_
  rintro _ _ ⟨rfl, h1⟩
  refine ⟨rfl, ?_⟩
  rcases h1 with ⟨rfl, h1⟩ | ⟨rfl, h1⟩
  · skip
    refine go_toq PM74 (k := 2) (pc' := 8) (L' := [some (.inr (.inr (some 0))), some (.inl p1), some (.inl p2), some (.inl p3)]) (st' := [.inl p2]) (w' := (SH, dt)) rfl ?_
    refine go_callq PM74 PM105 (Q' := _) rfl rfl rfl rfl (sp_X5_isWho L xs sio (d + 3) dt hI  p2 (by first | exact h_p2 | exact bnd h_p2 (by decide) (by decide) | exact ⟨by fail, by fail⟩) ) ?_
    rintro _ _ ⟨rfl, h2⟩
    refine ⟨rfl, ?_⟩
    rcases h2 with ⟨rfl, h2⟩ | ⟨rfl, h2⟩
    · skip
      refine go_toq PM74 (k := 3) (pc' := 18) (L' := [some (.inr (.inr (some 0))), some (.inl p1), some (.inl p2), some (.inl p3)]) (st' := [.inl p1, .inr (.inr (some 0))]) (w' := (SH, dt)) rfl ?_
      refine go_callq PM74 PM113 (Q' := _) rfl rfl rfl rfl (sp_X5_play L xs sio (d + 0) dt hI  p1 (by first | exact h_p1 | exact bnd h_p1 (by decide) (by decide) | exact ⟨by fail, by fail⟩) ) ?_
      rintro _ _ ⟨dt4, rfl, hI5, hF6, h3⟩
      refine ⟨rfl, ?_⟩
      have hF7 : Fr [44, 45, 46, 47, 48, 49, 50, 51, 52, 53, 54, 55, 56] dt dt4 := Fr_tr hF hF6 (by decide)
      rcases h3 with ⟨rfl, h3⟩
      have r8 := wr_RR p3
      refine go_toq PM74 (k := 1) (pc' := 22) (L' := [some (.inr (.inr (some 0))), some (.inl p1), some (.inl p2), some (.inl p3)]) (st' := [.inl p3]) (w' := (SH, dt4)) rfl ?_
      have e10 : wr p3 = p3 := wr_R ⟨by omega, by omega⟩
      by_cases c9 : wr p3 < 0 ∨ 3 < wr p3
      · refine go_swoq PM74 (p1 := 105) (lo := 0) (hi := 3) rfl rfl c9 ?_
        refine go_retq PM74 (k := 1) (r := some (.inl (-1))) (w1 := (SH, dt4)) rfl ?_
        exact ⟨dt4, rfl, hI5, hF7, ⟨_, rfl, ⟨by decide, by decide⟩, trivial⟩⟩
      · have c11 : wr p3 = 0 ∨ wr p3 = 1 ∨ wr p3 = 2 ∨ wr p3 = 3 := by omega
        rcases c11 with c11 | c11 | c11 | c11
        · refine go_swiq PM74 (v := 0) (p1 := 52) (lo := 0) (hi := 3) rfl c11 (by decide) rfl ?_
          refine go_toq PM74 (k := 4) (pc' := 60) (L' := [some (.inr (.inr (some 0))), some (.inl p1), some (.inl p2), some (.inl p3)]) (st' := [.inl p2, .inr (.inr (some 44))]) (w' := (SH, dt4)) rfl ?_
          have r12 : (-2147483648) ≤ dt4 44 (p2).toNat ∧ dt4 44 (p2).toNat ≤ 2147483647 := InvC_get hI5 44 (p2).toNat rfl rfl
          refine go_smpq PM74 (L' := [some (.inr (.inr (some 0))), some (.inl p1), some (.inl p2), some (.inl p3)]) (st' := [.inl (dt4 44 (p2).toNat)]) (w' := (SH, dt4)) rfl rfl (s_iald (n := 4) (f := dt4 44) rfl (by first | exact bndx h_p2 (by decide) (by decide) | exact ⟨by omega, by omega⟩)) ?_
          refine go_retq PM74 (k := 0) (r := some (.inl (dt4 44 (p2).toNat))) (w1 := (SH, dt4)) rfl ?_
          exact ⟨dt4, rfl, hI5, hF7, ⟨_, rfl, (by first | exact bnd r12 (by decide) (by decide) | exact ⟨by fail, by fail⟩), trivial⟩⟩
        · refine go_swiq PM74 (v := 1) (p1 := 62) (lo := 0) (hi := 3) rfl c11 (by decide) rfl ?_
          refine go_toq PM74 (k := 3) (pc' := 67) (L' := [some (.inr (.inr (some 0))), some (.inl p1), some (.inl p2), some (.inl p3)]) (st' := [.inl p2, .inr (.inr (some 43))]) (w' := (SH, dt4)) rfl ?_
          refine go_callq PM74 PM54 (Q' := _) rfl rfl rfl rfl (sp_X4_canSee_43 L xs sio (d + 4) dt4 hI5  p2 (by first | exact h_p2 | exact bnd h_p2 (by decide) (by decide) | exact ⟨by omega, by omega⟩) ) ?_
          rintro _ _ ⟨rfl, h13⟩
          refine ⟨rfl, ?_⟩
          rcases h13 with ⟨rfl, h13⟩ | ⟨rfl, h13⟩
          · skip
            refine go_retq PM74 (k := 3) (r := some (.inl 1)) (w1 := (SH, dt4)) rfl ?_
            exact ⟨dt4, rfl, hI5, hF7, ⟨_, rfl, ⟨by decide, by decide⟩, trivial⟩⟩
          · skip
            refine go_retq PM74 (k := 2) (r := some (.inl 0)) (w1 := (SH, dt4)) rfl ?_
            exact ⟨dt4, rfl, hI5, hF7, ⟨_, rfl, ⟨by decide, by decide⟩, trivial⟩⟩
        · refine go_swiq PM74 (v := 2) (p1 := 79) (lo := 0) (hi := 3) rfl c11 (by decide) rfl ?_
          refine go_toq PM74 (k := 6) (pc' := 89) (L' := [some (.inr (.inr (some 0))), some (.inl p1), some (.inl p2), some (.inl p3)]) (st' := [.inl (p2 * 2), .inr (.inr (some 46))]) (w' := (SH, dt4)) rfl ?_
          have r14 : (-2147483648) ≤ dt4 46 ((p2 * 2).toNat) ∧ dt4 46 ((p2 * 2).toNat) ≤ 2147483647 := InvC_get hI5 46 ((p2 * 2).toNat) rfl rfl
          refine go_smpq PM74 (L' := [some (.inr (.inr (some 0))), some (.inl p1), some (.inl p2), some (.inl p3)]) (st' := [.inl (dt4 46 ((p2 * 2).toNat))]) (w' := (SH, dt4)) rfl rfl (s_iald (n := 8) (f := dt4 46) rfl ⟨by omega, by omega⟩) ?_
          refine go_retq PM74 (k := 0) (r := some (.inl (dt4 46 ((p2 * 2).toNat)))) (w1 := (SH, dt4)) rfl ?_
          exact ⟨dt4, rfl, hI5, hF7, ⟨_, rfl, (by first | exact bnd r14 (by decide) (by decide) | exact ⟨by fail, by fail⟩), trivial⟩⟩
        · refine go_swiq PM74 (v := 3) (p1 := 91) (lo := 0) (hi := 3) rfl c11 (by decide) rfl ?_
          refine go_toq PM74 (k := 8) (pc' := 103) (L' := [some (.inr (.inr (some 0))), some (.inl p1), some (.inl p2), some (.inl p3)]) (st' := [.inl ((p2 * 2) + 1), .inr (.inr (some 46))]) (w' := (SH, dt4)) rfl ?_
          have r15 : (-2147483648) ≤ dt4 46 (((p2 * 2) + 1).toNat) ∧ dt4 46 (((p2 * 2) + 1).toNat) ≤ 2147483647 := InvC_get hI5 46 (((p2 * 2) + 1).toNat) rfl rfl
          refine go_smpq PM74 (L' := [some (.inr (.inr (some 0))), some (.inl p1), some (.inl p2), some (.inl p3)]) (st' := [.inl (dt4 46 (((p2 * 2) + 1).toNat))]) (w' := (SH, dt4)) rfl rfl (s_iald (n := 8) (f := dt4 46) rfl ⟨by omega, by omega⟩) ?_
          refine go_retq PM74 (k := 0) (r := some (.inl (dt4 46 (((p2 * 2) + 1).toNat)))) (w1 := (SH, dt4)) rfl ?_
          exact ⟨dt4, rfl, hI5, hF7, ⟨_, rfl, (by first | exact bnd r15 (by decide) (by decide) | exact ⟨by fail, by fail⟩), trivial⟩⟩
    · skip
      refine go_retq PM74 (k := 2) (r := some (.inl (-1))) (w1 := (SH, dt)) rfl ?_
      exact ⟨dt, rfl, hI, hF, ⟨_, rfl, ⟨by decide, by decide⟩, trivial⟩⟩
  · skip
    refine go_retq PM74 (k := 2) (r := some (.inl (-1))) (w1 := (SH, dt)) rfl ?_
    exact ⟨dt, rfl, hI, hF, ⟨_, rfl, ⟨by decide, by decide⟩, trivial⟩⟩
theorem sp_X5_child (L : Nat) (xs : Nat → Int32) (sio : Option Nat) (d : Nat) (dt : Nat → Nat → Int) (hI : InvC dt)  (p1 : Int) (h_p1 : (-2147483648) ≤ p1 ∧ p1 ≤ 2147483647) (p2 : Int) (h_p2 : (-2147483648) ≤ p2 ∧ p2 ≤ 2147483647) (p3 : Int) (h_p3 : (-2147483648) ≤ p3 ∧ p3 ≤ 2147483647) (p4 : Int) (h_p4 : (-2147483648) ≤ p4 ∧ p4 ≤ 2147483647)  : GO (am_XX L xs sio) (d + 2) 77 0 [some (.inr (.inr (some 0))), some (.inl p1), some (.inl p2), some (.inl p3), some (.inl p4)] [] (SH, dt) (fun r w2 => ∃ dt2 : Nat → Nat → Int, w2 = (SH, dt2) ∧ InvC dt2 ∧ Fr [10, 11] dt dt2 ∧ ((r = some (.inl (-1)) ∧ (¬ ((0 ≤ p1 ∧ p1 ≤ 3) ∧ (0 ≤ p2 ∧ p2 ≤ 120) ∧ (0 ≤ p3 ∧ p3 ≤ 9) ∧ (0 ≤ p4 ∧ p4 ≤ 1) ∧ dt 10 3 < 40)) ∧ (dt2 10 3 = dt 10 3)) ∨ (∃ v : Int, r = some (.inl v) ∧ ((-2147483648) ≤ v ∧ v ≤ 2147483647) ∧ (v = dt 10 3) ∧ ((0 ≤ p1 ∧ p1 ≤ 3) ∧ (0 ≤ p2 ∧ p2 ≤ 120) ∧ (0 ≤ p3 ∧ p3 ≤ 9) ∧ (0 ≤ p4 ∧ p4 ≤ 1) ∧ dt 10 3 < 40) ∧ (dt2 10 3 = dt 10 3 + 1)))) := by
  have hF : Fr [10, 11] dt dt := Fr_refl
  refine go_toq PM77 (k := 1) (pc' := 1) (L' := [some (.inr (.inr (some 0))), some (.inl p1), some (.inl p2), some (.inl p3), some (.inl p4)]) (st' := [.inl p1]) (w' := (SH, dt)) rfl ?_
  refine go_callq PM77 PM103 (Q' := _) rfl rfl rfl rfl (sp_X5_isLaw L xs sio (d + 0) dt hI  p1 (by first | exact h_p1 | exact bnd h_p1 (by decide) (by decide) | exact ⟨by omega, by omega⟩) ) ?_
  rintro _ _ ⟨rfl, h1⟩
  refine ⟨rfl, ?_⟩
  rcases h1 with ⟨rfl, h1⟩ | ⟨rfl, h1⟩
  · skip
    refine go_toq PM77 (k := 4) (pc' := 11) (L' := [some (.inr (.inr (some 0))), some (.inl p1), some (.inl p2), some (.inl p3), some (.inl p4)]) (st' := [.inl 120, .inl 0, .inl p2]) (w' := (SH, dt)) rfl ?_
    refine go_callq PM77 PM100 (Q' := _) rfl rfl rfl rfl (sp_X5_within L xs sio (d + 1) dt hI  p2 (by first | exact h_p2 | exact bnd h_p2 (by decide) (by decide) | exact ⟨by omega, by omega⟩) 0 ⟨by decide, by decide⟩ 120 ⟨by decide, by decide⟩ ) ?_
    rintro _ _ ⟨rfl, h2⟩
    refine ⟨rfl, ?_⟩
    rcases h2 with ⟨rfl, h2⟩ | ⟨rfl, h2⟩
    · skip
      refine go_toq PM77 (k := 4) (pc' := 21) (L' := [some (.inr (.inr (some 0))), some (.inl p1), some (.inl p2), some (.inl p3), some (.inl p4)]) (st' := [.inl 9, .inl 0, .inl p3]) (w' := (SH, dt)) rfl ?_
      refine go_callq PM77 PM100 (Q' := _) rfl rfl rfl rfl (sp_X5_within L xs sio (d + 1) dt hI  p3 (by first | exact h_p3 | exact bnd h_p3 (by decide) (by decide) | exact ⟨by omega, by omega⟩) 0 ⟨by decide, by decide⟩ 9 ⟨by decide, by decide⟩ ) ?_
      rintro _ _ ⟨rfl, h3⟩
      refine ⟨rfl, ?_⟩
      rcases h3 with ⟨rfl, h3⟩ | ⟨rfl, h3⟩
      · skip
        refine go_toq PM77 (k := 4) (pc' := 31) (L' := [some (.inr (.inr (some 0))), some (.inl p1), some (.inl p2), some (.inl p3), some (.inl p4)]) (st' := [.inl 1, .inl 0, .inl p4]) (w' := (SH, dt)) rfl ?_
        refine go_callq PM77 PM100 (Q' := _) rfl rfl rfl rfl (sp_X5_within L xs sio (d + 1) dt hI  p4 (by first | exact h_p4 | exact bnd h_p4 (by decide) (by decide) | exact ⟨by omega, by omega⟩) 0 ⟨by decide, by decide⟩ 1 ⟨by decide, by decide⟩ ) ?_
        rintro _ _ ⟨rfl, h4⟩
        refine ⟨rfl, ?_⟩
        rcases h4 with ⟨rfl, h4⟩ | ⟨rfl, h4⟩
        · skip
          refine go_toq PM77 (k := 10) (pc' := 53) (L' := [some (.inr (.inr (some 0))), some (.inl p1), some (.inl p2), some (.inl p3), some (.inl p4)]) (st' := [.inl 0, .inl 0, .inl p4, .inl p3, .inl p2, .inl p1, .inr (.inr (some 10))]) (w' := (SH, dt)) rfl ?_
          have r5 : 0 ≤ dt 10 3 ∧ dt 10 3 ≤ 40 := InvC_get hI 10 3 rfl rfl
          refine go_callq PM77 PM40 (Q' := _) rfl rfl rfl rfl (sp_X2_add_10 L xs sio (d + 0) dt hI  p1 (by first | exact h_p1 | exact bnd h_p1 (by decide) (by decide) | exact ⟨by omega, by omega⟩) p2 (by first | exact h_p2 | exact bnd h_p2 (by decide) (by decide) | exact ⟨by omega, by omega⟩) p3 (by first | exact h_p3 | exact bnd h_p3 (by decide) (by decide) | exact ⟨by omega, by omega⟩) p4 (by first | exact h_p4 | exact bnd h_p4 (by decide) (by decide) | exact ⟨by omega, by omega⟩) 0 ⟨by decide, by decide⟩ 0 ⟨by decide, by decide⟩ ) ?_
          rintro _ _ ⟨dt7, rfl, hI8, hF9, h6⟩
          refine ⟨rfl, ?_⟩
          have hF10 : Fr [10, 11] dt dt7 := Fr_tr hF hF9 (by decide)
          rcases h6 with ⟨rfl, h6⟩ | ⟨v_h6, rfl, h6r, h6⟩
          · skip
            refine go_retq PM77 (k := 0) (r := some (.inl (-1))) (w1 := (SH, dt7)) rfl ?_
            first | exact ⟨dt7, rfl, hI8, hF10, (Or.inl ⟨rfl, ⟨by first | exact True.intro | with_reducible assumption | rfl | omega | trivial, by first | exact True.intro | with_reducible assumption | rfl | omega | trivial⟩⟩)⟩ | exact ⟨dt7, rfl, hI8, hF10, (Or.inr ⟨_, rfl, ⟨by decide, by decide⟩, ⟨by first | exact True.intro | with_reducible assumption | rfl | omega | trivial, by first | exact True.intro | with_reducible assumption | rfl | omega | trivial, by first | exact True.intro | with_reducible assumption | rfl | omega | trivial⟩⟩)⟩
          · skip
            refine go_retq PM77 (k := 0) (r := some (.inl v_h6)) (w1 := (SH, dt7)) rfl ?_
            exact ⟨dt7, rfl, hI8, hF10, (Or.inr ⟨_, rfl, (by first | exact bnd h6r (by decide) (by decide) | exact ⟨by omega, by omega⟩), ⟨by first | exact True.intro | with_reducible assumption | rfl | omega | trivial, by first | exact True.intro | with_reducible assumption | rfl | omega | trivial, by first | exact True.intro | with_reducible assumption | rfl | omega | trivial⟩⟩)⟩
        · skip
          refine go_retq PM77 (k := 2) (r := some (.inl (-1))) (w1 := (SH, dt)) rfl ?_
          first | exact ⟨dt, rfl, hI, hF, (Or.inl ⟨rfl, ⟨by first | exact True.intro | with_reducible assumption | rfl | omega | trivial, by first | exact True.intro | with_reducible assumption | rfl | omega | trivial⟩⟩)⟩ | exact ⟨dt, rfl, hI, hF, (Or.inr ⟨_, rfl, ⟨by decide, by decide⟩, ⟨by first | exact True.intro | with_reducible assumption | rfl | omega | trivial, by first | exact True.intro | with_reducible assumption | rfl | omega | trivial, by first | exact True.intro | with_reducible assumption | rfl | omega | trivial⟩⟩)⟩
      · skip
        refine go_retq PM77 (k := 2) (r := some (.inl (-1))) (w1 := (SH, dt)) rfl ?_
        first | exact ⟨dt, rfl, hI, hF, (Or.inl ⟨rfl, ⟨by first | exact True.intro | with_reducible assumption | rfl | omega | trivial, by first | exact True.intro | with_reducible assumption | rfl | omega | trivial⟩⟩)⟩ | exact ⟨dt, rfl, hI, hF, (Or.inr ⟨_, rfl, ⟨by decide, by decide⟩, ⟨by first | exact True.intro | with_reducible assumption | rfl | omega | trivial, by first | exact True.intro | with_reducible assumption | rfl | omega | trivial, by first | exact True.intro | with_reducible assumption | rfl | omega | trivial⟩⟩)⟩
    · skip
      refine go_retq PM77 (k := 2) (r := some (.inl (-1))) (w1 := (SH, dt)) rfl ?_
      first | exact ⟨dt, rfl, hI, hF, (Or.inl ⟨rfl, ⟨by first | exact True.intro | with_reducible assumption | rfl | omega | trivial, by first | exact True.intro | with_reducible assumption | rfl | omega | trivial⟩⟩)⟩ | exact ⟨dt, rfl, hI, hF, (Or.inr ⟨_, rfl, ⟨by decide, by decide⟩, ⟨by first | exact True.intro | with_reducible assumption | rfl | omega | trivial, by first | exact True.intro | with_reducible assumption | rfl | omega | trivial, by first | exact True.intro | with_reducible assumption | rfl | omega | trivial⟩⟩)⟩
  · skip
    refine go_retq PM77 (k := 2) (r := some (.inl (-1))) (w1 := (SH, dt)) rfl ?_
    first | exact ⟨dt, rfl, hI, hF, (Or.inl ⟨rfl, ⟨by first | exact True.intro | with_reducible assumption | rfl | omega | trivial, by first | exact True.intro | with_reducible assumption | rfl | omega | trivial⟩⟩)⟩ | exact ⟨dt, rfl, hI, hF, (Or.inr ⟨_, rfl, ⟨by decide, by decide⟩, ⟨by first | exact True.intro | with_reducible assumption | rfl | omega | trivial, by first | exact True.intro | with_reducible assumption | rfl | omega | trivial, by first | exact True.intro | with_reducible assumption | rfl | omega | trivial⟩⟩)⟩
theorem sp_X5_ask (L : Nat) (xs : Nat → Int32) (sio : Option Nat) (d : Nat) (dt : Nat → Nat → Int) (hI : InvC dt)  (p1 : Int) (h_p1 : (-2147483648) ≤ p1 ∧ p1 ≤ 2147483647) (p2 : Int) (h_p2 : (-2147483648) ≤ p2 ∧ p2 ≤ 2147483647) (p3 : Int) (h_p3 : (-2147483648) ≤ p3 ∧ p3 ≤ 2147483647)  : GO (am_XX L xs sio) (d + 5) 79 0 [some (.inr (.inr (some 0))), some (.inl p1), some (.inl p2), some (.inl p3), none, none, none] [] (SH, dt) (fun r w2 => ∃ dt2 : Nat → Nat → Int, w2 = (SH, dt2) ∧ InvC dt2 ∧ Fr [1, 12, 13, 71, 72, 73, 74] dt dt2 ∧ ((r = some (.inl (-2)) ∧ (¬ ((0 ≤ p1 ∧ p1 < dt 10 3) ∧ (0 ≤ p2 ∧ p2 < dt 7 3) ∧ (0 ≤ p3 ∧ p3 ≤ 3) ∧ dt 12 3 < 300)) ∧ (dt2 1 0 = dt 1 0) ∧ (dt2 12 3 = dt 12 3)) ∨ (∃ v : Int, r = some (.inl v) ∧ ((-2147483648) ≤ v ∧ v ≤ 2147483647) ∧ ((0 ≤ p1 ∧ p1 < dt 10 3) ∧ (0 ≤ p2 ∧ p2 < dt 7 3) ∧ (0 ≤ p3 ∧ p3 ≤ 3) ∧ dt 12 3 < 300) ∧ (dt2 1 0 = wr (1664525 * (wr (1664525 * (dt 1 0) + 1013904223)) + 1013904223)) ∧ (dt2 12 3 = dt 12 3 + 1)))) := by
  have hF : Fr [1, 12, 13, 71, 72, 73, 74] dt dt := Fr_refl
  have r1 : 0 ≤ dt 12 3 ∧ dt 12 3 ≤ 300 := InvC_get hI 12 3 rfl rfl
  refine go_toq PM79 (k := 4) (pc' := 4) (L' := [some (.inr (.inr (some 0))), some (.inl p1), some (.inl p2), some (.inl p3), none, none, none]) (st' := [.inl p3, .inl p2, .inl p1, .inr (.inr (some 0))]) (w' := (SH, dt)) rfl ?_
  have r2 : 0 ≤ dt 10 3 ∧ dt 10 3 ≤ 40 := InvC_get hI 10 3 rfl rfl
  have r3 : 0 ≤ dt 7 3 ∧ dt 7 3 ≤ 12 := InvC_get hI 7 3 rfl rfl
  refine go_callq PM79 PM108 (Q' := _) rfl rfl rfl rfl (sp_X5_canAsk L xs sio (d + 3) dt hI  p1 (by first | exact h_p1 | exact bnd h_p1 (by decide) (by decide) | exact ⟨by fail, by fail⟩) p2 (by first | exact h_p2 | exact bnd h_p2 (by decide) (by decide) | exact ⟨by fail, by fail⟩) p3 (by first | exact h_p3 | exact bnd h_p3 (by decide) (by decide) | exact ⟨by fail, by fail⟩) ) ?_
  rintro _ _ ⟨rfl, h4⟩
  refine ⟨rfl, ?_⟩
  rcases h4 with ⟨rfl, h4⟩ | ⟨rfl, h4⟩
  · skip
    refine go_toq PM79 (k := 4) (pc' := 17) (L' := [some (.inr (.inr (some 0))), some (.inl p1), some (.inl p2), some (.inl p3), none, none, none]) (st' := [.inr (.inr (some 12))]) (w' := (SH, dt)) rfl ?_
    refine go_callq PM79 PM38 (Q' := _) rfl rfl rfl rfl (sp_X2_isFull_12 L xs sio (d + 4) dt hI   ) ?_
    rintro _ _ ⟨rfl, h5⟩
    refine ⟨rfl, ?_⟩
    rcases h5 with ⟨rfl, h5⟩ | ⟨rfl, h5⟩
    · skip
      refine go_retq PM79 (k := 2) (r := some (.inl (-2))) (w1 := (SH, dt)) rfl ?_
      first | exact ⟨dt, rfl, hI, hF, (Or.inl ⟨rfl, ⟨by first | exact True.intro | with_reducible assumption | rfl | omega | trivial, by first | exact True.intro | with_reducible assumption | rfl | fail | trivial, by first | exact True.intro | with_reducible assumption | rfl | fail | trivial⟩⟩)⟩ | exact ⟨dt, rfl, hI, hF, (Or.inr ⟨_, rfl, ⟨by decide, by decide⟩, ⟨by first | exact True.intro | with_reducible assumption | rfl | fail | trivial, by simp only [*], by first | exact True.intro | with_reducible assumption | rfl | fail | trivial⟩⟩)⟩
    · skip
      refine go_toq PM79 (k := 4) (pc' := 29) (L' := [some (.inr (.inr (some 0))), some (.inl p1), some (.inl p2), some (.inl p3), none, none, none]) (st' := [.inl p1, .inr (.inr (some 0)), .inr (.inr (some 0))]) (w' := (SH, dt)) rfl ?_
      refine go_callq PM79 PM109 (Q' := _) rfl rfl rfl rfl (sp_X5_lawOf L xs sio (d + 2) dt hI  p1 (by first | exact h_p1 | exact bnd h_p1 (by decide) (by decide) | exact ⟨by fail, by fail⟩) ) ?_
      rintro _ _ ⟨rfl, h6⟩
      refine ⟨rfl, ?_⟩
      rcases h6 with ⟨v_h6, rfl, h6r, h6⟩
      refine go_toq PM79 (k := 3) (pc' := 35) (L' := [some (.inr (.inr (some 0))), some (.inl p1), some (.inl p2), some (.inl p3), none, none, none]) (st' := [.inl p3, .inl p2, .inl p1, .inl v_h6, .inr (.inr (some 0))]) (w' := (SH, dt)) rfl ?_
      refine go_callq PM79 PM118 (Q' := _) rfl rfl rfl rfl (sp_X5_weigh L xs sio (d + 0) dt hI  v_h6 (by first | exact bnd h6r (by decide) (by decide) | exact ⟨by fail, by fail⟩) p1 (by first | exact h_p1 | exact bnd h_p1 (by decide) (by decide) | exact ⟨by fail, by fail⟩) p2 (by first | exact h_p2 | exact bnd h_p2 (by decide) (by decide) | exact ⟨by fail, by fail⟩) p3 (by first | exact h_p3 | exact bnd h_p3 (by decide) (by decide) | exact ⟨by fail, by fail⟩) ) ?_
      rintro _ _ ⟨dt8, rfl, hI9, hF10, h7⟩
      refine ⟨rfl, ?_⟩
      have hF11 : Fr [1, 12, 13, 71, 72, 73, 74] dt dt8 := Fr_tr hF hF10 (by decide)
      have w12 : dt8 1 0 = dt 1 0 := hF10 1 (by decide) 0
      have w13 : dt8 12 3 = dt 12 3 := hF10 12 (by decide) 3
      rcases h7 with ⟨rfl, h7⟩
      have r14 : 0 ≤ dt8 71 1 ∧ dt8 71 1 ≤ 792 := InvC_get hI9 71 1 rfl rfl
      refine go_ifq PM79 (k := 5) (p1 := 61) (p2 := 51) (L' := [some (.inr (.inr (some 0))), some (.inl p1), some (.inl p2), some (.inl p3), some (.inl (-1)), none, none]) (st' := []) (w' := (SH, dt8)) rfl (z_ne (a := dt8 71 1) (by first | exact bnd r14 (by decide) (by decide) | exact ⟨by fail, by fail⟩)) (fun c15 => ?_) (fun c15 => ?_)
      · skip
        have qc15 : 1 ≤ dt8 71 1 := by omega
        replace c15 := hid c15
        refine go_toq PM79 (k := 6) (pc' := 73) (L' := [some (.inr (.inr (some 0))), some (.inl p1), some (.inl p2), some (.inl p3), some (.inl (-1)), none, none]) (st' := [.inl (dt8 71 1), .inr (.inr (some 0)), .inr (.inr (some 71))]) (w' := (SH, dt8)) rfl ?_
        refine go_callq PM79 PM110 (Q' := _) rfl rfl rfl rfl (sp_X5_draw L xs sio (d + 4) dt8 hI9  (dt8 71 1) (by first | exact bnd r14 (by decide) (by decide) | exact ⟨by fail, by fail⟩) ) ?_
        rintro _ _ ⟨dt17, rfl, hI18, hF19, h16⟩
        refine ⟨rfl, ?_⟩
        have hF20 : Fr [1, 12, 13, 71, 72, 73, 74] dt dt17 := Fr_tr hF11 hF19 (by decide)
        have w21 : dt17 12 3 = dt8 12 3 := hF19 12 (by decide) 3
        rcases h16 with ⟨v_h16, rfl, h16r, h16⟩
        refine go_callq PM79 PM46 (Q' := _) rfl rfl rfl rfl (sp_X3_ruleOf L xs sio (d + 4) dt17 hI18  v_h16 (by first | exact bnd h16r (by decide) (by decide) | exact ⟨by fail, by fail⟩) ) ?_
        rintro _ _ ⟨rfl, h22⟩
        refine ⟨rfl, ?_⟩
        rcases h22 with ⟨v_h22, rfl, h22r, h22⟩
        refine go_toq PM79 (k := 5) (pc' := 88) (L' := [some (.inr (.inr (some 0))), some (.inl p1), some (.inl p2), some (.inl p3), some (.inl v_h22), none, none]) (st' := [.inl v_h22, .inl p2, .inr (.inr (some 1))]) (w' := (SH, dt17)) rfl ?_
        refine go_callq PM79 PM1 (Q' := _) rfl rfl rfl rfl (sp_X0_saidOf L xs sio (d + 3) dt17 hI18  p2 (by first | exact h_p2 | exact bnd h_p2 (by decide) (by decide) | exact ⟨by fail, by fail⟩) v_h22 (by first | exact bnd h22r (by decide) (by decide) | exact ⟨by fail, by fail⟩) ) ?_
        rintro _ _ ⟨rfl, h23⟩
        refine ⟨rfl, ?_⟩
        rcases h23 with ⟨v_h23, rfl, h23r, h23⟩
        refine go_toq PM79 (k := 3) (pc' := 96) (L' := [some (.inr (.inr (some 0))), some (.inl p1), some (.inl p2), some (.inl p3), some (.inl v_h22), some (.inl v_h23), none]) (st' := [.inl 100, .inr (.inr (some 0))]) (w' := (SH, dt17)) rfl ?_
        refine go_callq PM79 PM110 (Q' := _) rfl rfl rfl rfl (sp_X5_draw L xs sio (d + 4) dt17 hI18  100 ⟨by decide, by decide⟩ ) ?_
        rintro _ _ ⟨dt25, rfl, hI26, hF27, h24⟩
        refine ⟨rfl, ?_⟩
        have hF28 : Fr [1, 12, 13, 71, 72, 73, 74] dt dt25 := Fr_tr hF20 hF27 (by decide)
        have w29 : dt25 12 3 = dt17 12 3 := hF27 12 (by decide) 3
        rcases h24 with ⟨v_h24, rfl, h24r, h24⟩
        refine go_toq PM79 (k := 4) (pc' := 108) (L' := [some (.inr (.inr (some 0))), some (.inl p1), some (.inl p2), some (.inl p3), some (.inl v_h22), some (.inl v_h23), none]) (st' := [.inl 8, .inr (.inr (some 72)), .inl v_h24]) (w' := (SH, dt25)) rfl ?_
        have r30 : 0 ≤ dt25 72 8 ∧ dt25 72 8 ≤ 100 := InvC_get hI26 72 8 rfl rfl
        refine go_smpq PM79 (L' := [some (.inr (.inr (some 0))), some (.inl p1), some (.inl p2), some (.inl p3), some (.inl v_h22), some (.inl v_h23), none]) (st' := [.inl (dt25 72 8), .inl v_h24]) (w' := (SH, dt25)) rfl rfl (s_iald (n := 9) (f := dt25 72) rfl ⟨by decide, by decide⟩) ?_
        refine go_ifq PM79 (k := 0) (p1 := 116) (p2 := 112) (L' := [some (.inr (.inr (some 0))), some (.inl p1), some (.inl p2), some (.inl p3), some (.inl v_h22), some (.inl v_h23), none]) (st' := []) (w' := (SH, dt25)) rfl (c_ge (a := v_h24) (b := dt25 72 8) (by first | exact bnd h24r (by decide) (by decide) | exact ⟨by fail, by fail⟩) (by first | exact bnd r30 (by decide) (by decide) | exact ⟨by fail, by fail⟩)) (fun c31 => ?_) (fun c31 => ?_)
        · skip
          refine go_toq PM79 (k := 15) (pc' := 159) (L' := [some (.inr (.inr (some 0))), some (.inl p1), some (.inl p2), some (.inl p3), some (.inl v_h22), some (.inl v_h23), some (.inl 0)]) (st' := [.inl 0, .inl v_h22, .inl v_h23, .inl p3, .inl p2, .inl p1, .inr (.inr (some 12))]) (w' := (SH, dt25)) rfl ?_
          have r32 : 0 ≤ dt25 12 3 ∧ dt25 12 3 ≤ 300 := InvC_get hI26 12 3 rfl rfl
          refine go_callq PM79 PM40 (Q' := _) rfl rfl rfl rfl (sp_X2_add_12 L xs sio (d + 3) dt25 hI26  p1 (by first | exact h_p1 | exact bnd h_p1 (by decide) (by decide) | exact ⟨by fail, by fail⟩) p2 (by first | exact h_p2 | exact bnd h_p2 (by decide) (by decide) | exact ⟨by fail, by fail⟩) p3 (by first | exact h_p3 | exact bnd h_p3 (by decide) (by decide) | exact ⟨by fail, by fail⟩) v_h23 (by first | exact bnd h23r (by decide) (by decide) | exact ⟨by fail, by fail⟩) v_h22 (by first | exact bnd h22r (by decide) (by decide) | exact ⟨by fail, by fail⟩) 0 ⟨by decide, by decide⟩ ) ?_
          rintro _ _ ⟨dt34, rfl, hI35, hF36, h33⟩
          refine ⟨rfl, ?_⟩
          have hF37 : Fr [1, 12, 13, 71, 72, 73, 74] dt dt34 := Fr_tr hF28 hF36 (by decide)
          have w38 : dt34 1 0 = dt25 1 0 := hF36 1 (by decide) 0
          rcases h33 with ⟨rfl, h33⟩ | ⟨v_h33, rfl, h33r, h33⟩
          · skip
            refine go_retq PM79 (k := 2) (r := some (.inl v_h23)) (w1 := (SH, dt34)) rfl ?_
            exact ⟨dt34, rfl, hI35, hF37, (Or.inr ⟨_, rfl, (by first | exact bnd h23r (by decide) (by decide) | exact ⟨by fail, by fail⟩), ⟨by first | exact True.intro | with_reducible assumption | exact unhid (by with_reducible assumption) | rfl | omega | trivial, by simp only [*], by first | exact True.intro | with_reducible assumption | exact unhid (by with_reducible assumption) | rfl | omega | trivial⟩⟩)⟩
          · skip
            refine go_retq PM79 (k := 2) (r := some (.inl v_h23)) (w1 := (SH, dt34)) rfl ?_
            exact ⟨dt34, rfl, hI35, hF37, (Or.inr ⟨_, rfl, (by first | exact bnd h23r (by decide) (by decide) | exact ⟨by fail, by fail⟩), ⟨by first | exact True.intro | with_reducible assumption | exact unhid (by with_reducible assumption) | rfl | omega | trivial, by simp only [*], by first | exact True.intro | with_reducible assumption | exact unhid (by with_reducible assumption) | rfl | omega | trivial⟩⟩)⟩
        · skip
          refine go_toq PM79 (k := 9) (pc' := 130) (L' := [some (.inr (.inr (some 0))), some (.inl p1), some (.inl p2), some (.inl p3), some (.inl v_h22), some (.inl v_h23), some (.inl 1)]) (st' := [.inl 0, .inl p2, .inr (.inr (some 1))]) (w' := (SH, dt25)) rfl ?_
          refine go_callq PM79 PM1 (Q' := _) rfl rfl rfl rfl (sp_X0_saidOf L xs sio (d + 3) dt25 hI26  p2 (by first | exact h_p2 | exact bnd h_p2 (by decide) (by decide) | exact ⟨by fail, by fail⟩) 0 ⟨by decide, by decide⟩ ) ?_
          rintro _ _ ⟨rfl, h39⟩
          refine ⟨rfl, ?_⟩
          rcases h39 with ⟨v_h39, rfl, h39r, h39⟩
          refine go_toq PM79 (k := 13) (pc' := 159) (L' := [some (.inr (.inr (some 0))), some (.inl p1), some (.inl p2), some (.inl p3), some (.inl v_h22), some (.inl v_h39), some (.inl 1)]) (st' := [.inl 1, .inl v_h22, .inl v_h39, .inl p3, .inl p2, .inl p1, .inr (.inr (some 12))]) (w' := (SH, dt25)) rfl ?_
          have r40 : 0 ≤ dt25 12 3 ∧ dt25 12 3 ≤ 300 := InvC_get hI26 12 3 rfl rfl
          refine go_callq PM79 PM40 (Q' := _) rfl rfl rfl rfl (sp_X2_add_12 L xs sio (d + 3) dt25 hI26  p1 (by first | exact h_p1 | exact bnd h_p1 (by decide) (by decide) | exact ⟨by fail, by fail⟩) p2 (by first | exact h_p2 | exact bnd h_p2 (by decide) (by decide) | exact ⟨by fail, by fail⟩) p3 (by first | exact h_p3 | exact bnd h_p3 (by decide) (by decide) | exact ⟨by fail, by fail⟩) v_h39 (by first | exact bnd h39r (by decide) (by decide) | exact ⟨by fail, by fail⟩) v_h22 (by first | exact bnd h22r (by decide) (by decide) | exact ⟨by fail, by fail⟩) 1 ⟨by decide, by decide⟩ ) ?_
          rintro _ _ ⟨dt42, rfl, hI43, hF44, h41⟩
          refine ⟨rfl, ?_⟩
          have hF45 : Fr [1, 12, 13, 71, 72, 73, 74] dt dt42 := Fr_tr hF28 hF44 (by decide)
          have w46 : dt42 1 0 = dt25 1 0 := hF44 1 (by decide) 0
          rcases h41 with ⟨rfl, h41⟩ | ⟨v_h41, rfl, h41r, h41⟩
          · skip
            refine go_retq PM79 (k := 2) (r := some (.inl v_h39)) (w1 := (SH, dt42)) rfl ?_
            exact ⟨dt42, rfl, hI43, hF45, (Or.inr ⟨_, rfl, (by first | exact bnd h39r (by decide) (by decide) | exact ⟨by fail, by fail⟩), ⟨by first | exact True.intro | with_reducible assumption | exact unhid (by with_reducible assumption) | rfl | omega | trivial, by simp only [*], by first | exact True.intro | with_reducible assumption | exact unhid (by with_reducible assumption) | rfl | omega | trivial⟩⟩)⟩
          · skip
            refine go_retq PM79 (k := 2) (r := some (.inl v_h39)) (w1 := (SH, dt42)) rfl ?_
            exact ⟨dt42, rfl, hI43, hF45, (Or.inr ⟨_, rfl, (by first | exact bnd h39r (by decide) (by decide) | exact ⟨by fail, by fail⟩), ⟨by first | exact True.intro | with_reducible assumption | exact unhid (by with_reducible assumption) | rfl | omega | trivial, by simp only [*], by first | exact True.intro | with_reducible assumption | exact unhid (by with_reducible assumption) | rfl | omega | trivial⟩⟩)⟩
      · skip
        refine go_toq PM79 (k := 2) (pc' := 53) (L' := [some (.inr (.inr (some 0))), some (.inl p1), some (.inl p2), some (.inl p3), some (.inl (-1)), none, none]) (st' := [.inl 4, .inr (.inr (some 0))]) (w' := (SH, dt8)) rfl ?_
        refine go_callq PM79 PM110 (Q' := _) rfl rfl rfl rfl (sp_X5_draw L xs sio (d + 4) dt8 hI9  4 ⟨by decide, by decide⟩ ) ?_
        rintro _ _ ⟨dt48, rfl, hI49, hF50, h47⟩
        refine ⟨rfl, ?_⟩
        have hF51 : Fr [1, 12, 13, 71, 72, 73, 74] dt dt48 := Fr_tr hF11 hF50 (by decide)
        have w52 : dt48 12 3 = dt8 12 3 := hF50 12 (by decide) 3
        rcases h47 with ⟨v_h47, rfl, h47r, h47⟩
        refine go_toq PM79 (k := 4) (pc' := 96) (L' := [some (.inr (.inr (some 0))), some (.inl p1), some (.inl p2), some (.inl p3), some (.inl (-1)), some (.inl v_h47), none]) (st' := [.inl 100, .inr (.inr (some 0))]) (w' := (SH, dt48)) rfl ?_
        refine go_callq PM79 PM110 (Q' := _) rfl rfl rfl rfl (sp_X5_draw L xs sio (d + 4) dt48 hI49  100 ⟨by decide, by decide⟩ ) ?_
        rintro _ _ ⟨dt54, rfl, hI55, hF56, h53⟩
        refine ⟨rfl, ?_⟩
        have hF57 : Fr [1, 12, 13, 71, 72, 73, 74] dt dt54 := Fr_tr hF51 hF56 (by decide)
        have w58 : dt54 12 3 = dt48 12 3 := hF56 12 (by decide) 3
        rcases h53 with ⟨v_h53, rfl, h53r, h53⟩
        refine go_toq PM79 (k := 4) (pc' := 108) (L' := [some (.inr (.inr (some 0))), some (.inl p1), some (.inl p2), some (.inl p3), some (.inl (-1)), some (.inl v_h47), none]) (st' := [.inl 8, .inr (.inr (some 72)), .inl v_h53]) (w' := (SH, dt54)) rfl ?_
        have r59 : 0 ≤ dt54 72 8 ∧ dt54 72 8 ≤ 100 := InvC_get hI55 72 8 rfl rfl
        refine go_smpq PM79 (L' := [some (.inr (.inr (some 0))), some (.inl p1), some (.inl p2), some (.inl p3), some (.inl (-1)), some (.inl v_h47), none]) (st' := [.inl (dt54 72 8), .inl v_h53]) (w' := (SH, dt54)) rfl rfl (s_iald (n := 9) (f := dt54 72) rfl ⟨by decide, by decide⟩) ?_
        refine go_ifq PM79 (k := 0) (p1 := 116) (p2 := 112) (L' := [some (.inr (.inr (some 0))), some (.inl p1), some (.inl p2), some (.inl p3), some (.inl (-1)), some (.inl v_h47), none]) (st' := []) (w' := (SH, dt54)) rfl (c_ge (a := v_h53) (b := dt54 72 8) (by first | exact bnd h53r (by decide) (by decide) | exact ⟨by fail, by fail⟩) (by first | exact bnd r59 (by decide) (by decide) | exact ⟨by fail, by fail⟩)) (fun c60 => ?_) (fun c60 => ?_)
        · skip
          refine go_toq PM79 (k := 15) (pc' := 159) (L' := [some (.inr (.inr (some 0))), some (.inl p1), some (.inl p2), some (.inl p3), some (.inl (-1)), some (.inl v_h47), some (.inl 0)]) (st' := [.inl 0, .inl (-1), .inl v_h47, .inl p3, .inl p2, .inl p1, .inr (.inr (some 12))]) (w' := (SH, dt54)) rfl ?_
          have r61 : 0 ≤ dt54 12 3 ∧ dt54 12 3 ≤ 300 := InvC_get hI55 12 3 rfl rfl
          refine go_callq PM79 PM40 (Q' := _) rfl rfl rfl rfl (sp_X2_add_12 L xs sio (d + 3) dt54 hI55  p1 (by first | exact h_p1 | exact bnd h_p1 (by decide) (by decide) | exact ⟨by fail, by fail⟩) p2 (by first | exact h_p2 | exact bnd h_p2 (by decide) (by decide) | exact ⟨by fail, by fail⟩) p3 (by first | exact h_p3 | exact bnd h_p3 (by decide) (by decide) | exact ⟨by fail, by fail⟩) v_h47 (by first | exact bnd h47r (by decide) (by decide) | exact ⟨by fail, by fail⟩) (-1) ⟨by decide, by decide⟩ 0 ⟨by decide, by decide⟩ ) ?_
          rintro _ _ ⟨dt63, rfl, hI64, hF65, h62⟩
          refine ⟨rfl, ?_⟩
          have hF66 : Fr [1, 12, 13, 71, 72, 73, 74] dt dt63 := Fr_tr hF57 hF65 (by decide)
          have w67 : dt63 1 0 = dt54 1 0 := hF65 1 (by decide) 0
          rcases h62 with ⟨rfl, h62⟩ | ⟨v_h62, rfl, h62r, h62⟩
          · skip
            refine go_retq PM79 (k := 2) (r := some (.inl v_h47)) (w1 := (SH, dt63)) rfl ?_
            exact ⟨dt63, rfl, hI64, hF66, (Or.inr ⟨_, rfl, (by first | exact bnd h47r (by decide) (by decide) | exact ⟨by fail, by fail⟩), ⟨by first | exact True.intro | with_reducible assumption | rfl | omega | trivial, by simp only [*], by first | exact True.intro | with_reducible assumption | rfl | omega | trivial⟩⟩)⟩
          · skip
            refine go_retq PM79 (k := 2) (r := some (.inl v_h47)) (w1 := (SH, dt63)) rfl ?_
            exact ⟨dt63, rfl, hI64, hF66, (Or.inr ⟨_, rfl, (by first | exact bnd h47r (by decide) (by decide) | exact ⟨by fail, by fail⟩), ⟨by first | exact True.intro | with_reducible assumption | rfl | omega | trivial, by simp only [*], by first | exact True.intro | with_reducible assumption | rfl | omega | trivial⟩⟩)⟩
        · skip
          refine go_toq PM79 (k := 9) (pc' := 130) (L' := [some (.inr (.inr (some 0))), some (.inl p1), some (.inl p2), some (.inl p3), some (.inl (-1)), some (.inl v_h47), some (.inl 1)]) (st' := [.inl 0, .inl p2, .inr (.inr (some 1))]) (w' := (SH, dt54)) rfl ?_
          refine go_callq PM79 PM1 (Q' := _) rfl rfl rfl rfl (sp_X0_saidOf L xs sio (d + 3) dt54 hI55  p2 (by first | exact h_p2 | exact bnd h_p2 (by decide) (by decide) | exact ⟨by fail, by fail⟩) 0 ⟨by decide, by decide⟩ ) ?_
          rintro _ _ ⟨rfl, h68⟩
          refine ⟨rfl, ?_⟩
          rcases h68 with ⟨v_h68, rfl, h68r, h68⟩
          refine go_toq PM79 (k := 13) (pc' := 159) (L' := [some (.inr (.inr (some 0))), some (.inl p1), some (.inl p2), some (.inl p3), some (.inl (-1)), some (.inl v_h68), some (.inl 1)]) (st' := [.inl 1, .inl (-1), .inl v_h68, .inl p3, .inl p2, .inl p1, .inr (.inr (some 12))]) (w' := (SH, dt54)) rfl ?_
          have r69 : 0 ≤ dt54 12 3 ∧ dt54 12 3 ≤ 300 := InvC_get hI55 12 3 rfl rfl
          refine go_callq PM79 PM40 (Q' := _) rfl rfl rfl rfl (sp_X2_add_12 L xs sio (d + 3) dt54 hI55  p1 (by first | exact h_p1 | exact bnd h_p1 (by decide) (by decide) | exact ⟨by fail, by fail⟩) p2 (by first | exact h_p2 | exact bnd h_p2 (by decide) (by decide) | exact ⟨by fail, by fail⟩) p3 (by first | exact h_p3 | exact bnd h_p3 (by decide) (by decide) | exact ⟨by fail, by fail⟩) v_h68 (by first | exact bnd h68r (by decide) (by decide) | exact ⟨by fail, by fail⟩) (-1) ⟨by decide, by decide⟩ 1 ⟨by decide, by decide⟩ ) ?_
          rintro _ _ ⟨dt71, rfl, hI72, hF73, h70⟩
          refine ⟨rfl, ?_⟩
          have hF74 : Fr [1, 12, 13, 71, 72, 73, 74] dt dt71 := Fr_tr hF57 hF73 (by decide)
          have w75 : dt71 1 0 = dt54 1 0 := hF73 1 (by decide) 0
          rcases h70 with ⟨rfl, h70⟩ | ⟨v_h70, rfl, h70r, h70⟩
          · skip
            refine go_retq PM79 (k := 2) (r := some (.inl v_h68)) (w1 := (SH, dt71)) rfl ?_
            exact ⟨dt71, rfl, hI72, hF74, (Or.inr ⟨_, rfl, (by first | exact bnd h68r (by decide) (by decide) | exact ⟨by fail, by fail⟩), ⟨by first | exact True.intro | with_reducible assumption | rfl | omega | trivial, by simp only [*], by first | exact True.intro | with_reducible assumption | rfl | omega | trivial⟩⟩)⟩
          · skip
            refine go_retq PM79 (k := 2) (r := some (.inl v_h68)) (w1 := (SH, dt71)) rfl ?_
            exact ⟨dt71, rfl, hI72, hF74, (Or.inr ⟨_, rfl, (by first | exact bnd h68r (by decide) (by decide) | exact ⟨by fail, by fail⟩), ⟨by first | exact True.intro | with_reducible assumption | rfl | omega | trivial, by simp only [*], by first | exact True.intro | with_reducible assumption | rfl | omega | trivial⟩⟩)⟩
  · skip
    refine go_retq PM79 (k := 2) (r := some (.inl (-2))) (w1 := (SH, dt)) rfl ?_
    first | exact ⟨dt, rfl, hI, hF, (Or.inl ⟨rfl, ⟨by first | exact True.intro | with_reducible assumption | rfl | omega | trivial, by first | exact True.intro | with_reducible assumption | rfl | fail | trivial, by first | exact True.intro | with_reducible assumption | rfl | fail | trivial⟩⟩)⟩ | exact ⟨dt, rfl, hI, hF, (Or.inr ⟨_, rfl, ⟨by decide, by decide⟩, ⟨by first | exact True.intro | with_reducible assumption | rfl | fail | trivial, by simp only [*], by first | exact True.intro | with_reducible assumption | rfl | fail | trivial⟩⟩)⟩
theorem sp_X5_told (L : Nat) (xs : Nat → Int32) (sio : Option Nat) (d : Nat) (dt : Nat → Nat → Int) (hI : InvC dt)  (p1 : Int) (h_p1 : (-2147483648) ≤ p1 ∧ p1 ≤ 2147483647) (p2 : Int) (h_p2 : (-2147483648) ≤ p2 ∧ p2 ≤ 2147483647) (p3 : Int) (h_p3 : (-2147483648) ≤ p3 ∧ p3 ≤ 2147483647) (p4 : Int) (h_p4 : (-2147483648) ≤ p4 ∧ p4 ≤ 2147483647)  : GO (am_XX L xs sio) (d + 2) 80 0 [some (.inr (.inr (some 0))), some (.inl p1), some (.inl p2), some (.inl p3), some (.inl p4)] [] (SH, dt) (fun r w2 => ∃ dt2 : Nat → Nat → Int, w2 = (SH, dt2) ∧ InvC dt2 ∧ Fr [12, 13] dt dt2 ∧ ((r = some (.inl (-1)) ∧ (¬ ((0 ≤ p1 ∧ p1 < dt 10 3) ∧ (0 ≤ p2 ∧ p2 < dt 7 3) ∧ (0 ≤ p3 ∧ p3 ≤ 3) ∧ dt 12 3 < 300 ∧ ((-1) ≤ p4 ∧ p4 ≤ 3))) ∧ (dt2 12 3 = dt 12 3)) ∨ (∃ v : Int, r = some (.inl v) ∧ ((-2147483648) ≤ v ∧ v ≤ 2147483647) ∧ (v = dt 12 3 + 1) ∧ ((0 ≤ p1 ∧ p1 < dt 10 3) ∧ (0 ≤ p2 ∧ p2 < dt 7 3) ∧ (0 ≤ p3 ∧ p3 ≤ 3) ∧ dt 12 3 < 300 ∧ ((-1) ≤ p4 ∧ p4 ≤ 3)) ∧ (dt2 12 3 = dt 12 3 + 1)))) := by
  have hF : Fr [12, 13] dt dt := Fr_refl
  have r1 : 0 ≤ dt 12 3 ∧ dt 12 3 ≤ 300 := InvC_get hI 12 3 rfl rfl
  refine go_toq PM80 (k := 4) (pc' := 4) (L' := [some (.inr (.inr (some 0))), some (.inl p1), some (.inl p2), some (.inl p3), some (.inl p4)]) (st' := [.inl p3, .inl p2, .inl p1, .inr (.inr (some 0))]) (w' := (SH, dt)) rfl ?_
  have r2 : 0 ≤ dt 10 3 ∧ dt 10 3 ≤ 40 := InvC_get hI 10 3 rfl rfl
  have r3 : 0 ≤ dt 7 3 ∧ dt 7 3 ≤ 12 := InvC_get hI 7 3 rfl rfl
  refine go_callq PM80 PM108 (Q' := _) rfl rfl rfl rfl (sp_X5_canAsk L xs sio (d + 0) dt hI  p1 (by first | exact h_p1 | exact bnd h_p1 (by decide) (by decide) | exact ⟨by fail, by fail⟩) p2 (by first | exact h_p2 | exact bnd h_p2 (by decide) (by decide) | exact ⟨by fail, by fail⟩) p3 (by first | exact h_p3 | exact bnd h_p3 (by decide) (by decide) | exact ⟨by fail, by fail⟩) ) ?_
  rintro _ _ ⟨rfl, h4⟩
  refine ⟨rfl, ?_⟩
  rcases h4 with ⟨rfl, h4⟩ | ⟨rfl, h4⟩
  · skip
    refine go_toq PM80 (k := 2) (pc' := 12) (L' := [some (.inr (.inr (some 0))), some (.inl p1), some (.inl p2), some (.inl p3), some (.inl p4)]) (st' := [.inl p4]) (w' := (SH, dt)) rfl ?_
    refine go_callq PM80 PM107 (Q' := _) rfl rfl rfl rfl (sp_X5_isAnswer L xs sio (d + 0) dt hI  p4 (by first | exact h_p4 | exact bnd h_p4 (by decide) (by decide) | exact ⟨by fail, by fail⟩) ) ?_
    rintro _ _ ⟨rfl, h5⟩
    refine ⟨rfl, ?_⟩
    rcases h5 with ⟨rfl, h5⟩ | ⟨rfl, h5⟩
    · skip
      refine go_toq PM80 (k := 10) (pc' := 34) (L' := [some (.inr (.inr (some 0))), some (.inl p1), some (.inl p2), some (.inl p3), some (.inl p4)]) (st' := [.inl 0, .inl (-1), .inl p4, .inl p3, .inl p2, .inl p1, .inr (.inr (some 12))]) (w' := (SH, dt)) rfl ?_
      refine go_callq PM80 PM40 (Q' := _) rfl rfl rfl rfl (sp_X2_add_12 L xs sio (d + 0) dt hI  p1 (by first | exact h_p1 | exact bnd h_p1 (by decide) (by decide) | exact ⟨by fail, by fail⟩) p2 (by first | exact h_p2 | exact bnd h_p2 (by decide) (by decide) | exact ⟨by fail, by fail⟩) p3 (by first | exact h_p3 | exact bnd h_p3 (by decide) (by decide) | exact ⟨by fail, by fail⟩) p4 (by first | exact h_p4 | exact bnd h_p4 (by decide) (by decide) | exact ⟨by fail, by fail⟩) (-1) ⟨by decide, by decide⟩ 0 ⟨by decide, by decide⟩ ) ?_
      rintro _ _ ⟨dt7, rfl, hI8, hF9, h6⟩
      refine ⟨rfl, ?_⟩
      have hF10 : Fr [12, 13] dt dt7 := Fr_tr hF hF9 (by decide)
      rcases h6 with ⟨rfl, h6⟩ | ⟨v_h6, rfl, h6r, h6⟩
      · skip
        refine go_retq PM80 (k := 3) (r := some (.inl (-1))) (w1 := (SH, dt7)) rfl ?_
        first | exact ⟨dt7, rfl, hI8, hF10, (Or.inl ⟨rfl, ⟨by first | exact True.intro | with_reducible assumption | rfl | omega | trivial, by first | exact True.intro | with_reducible assumption | rfl | omega | trivial⟩⟩)⟩ | exact ⟨dt7, rfl, hI8, hF10, (Or.inr ⟨_, rfl, ⟨by decide, by decide⟩, ⟨by first | exact True.intro | with_reducible assumption | rfl | fail | trivial, by first | exact True.intro | with_reducible assumption | rfl | fail | trivial, by first | exact True.intro | with_reducible assumption | rfl | fail | trivial⟩⟩)⟩
      · skip
        refine go_ifq PM80 (k := 1) (p1 := 43) (p2 := 41) (L' := [some (.inr (.inr (some 0))), some (.inl p1), some (.inl p2), some (.inl p3), some (.inl p4)]) (st' := []) (w' := (SH, dt7)) rfl (c_ne (a := v_h6) (b := (-1)) (by first | exact bnd h6r (by decide) (by decide) | exact ⟨by fail, by fail⟩) ⟨by decide, by decide⟩) (fun c11 => ?_) (fun c11 => ?_)
        · skip
          replace c11 := hid c11
          have r12 : 0 ≤ dt7 12 3 ∧ dt7 12 3 ≤ 300 := InvC_get hI8 12 3 rfl rfl
          refine go_retq PM80 (k := 4) (r := some (.inl (dt7 12 3))) (w1 := (SH, dt7)) rfl ?_
          exact ⟨dt7, rfl, hI8, hF10, (Or.inr ⟨_, rfl, (by first | exact bnd r12 (by decide) (by decide) | exact ⟨by fail, by fail⟩), ⟨by first | exact True.intro | with_reducible assumption | exact unhid (by with_reducible assumption) | rfl | omega | trivial, by first | exact True.intro | with_reducible assumption | exact unhid (by with_reducible assumption) | rfl | omega | trivial, by first | exact True.intro | with_reducible assumption | exact unhid (by with_reducible assumption) | rfl | omega | trivial⟩⟩)⟩
        · exfalso; omega
    · skip
      refine go_retq PM80 (k := 2) (r := some (.inl (-1))) (w1 := (SH, dt)) rfl ?_
      first | exact ⟨dt, rfl, hI, hF, (Or.inl ⟨rfl, ⟨by first | exact True.intro | with_reducible assumption | rfl | omega | trivial, by first | exact True.intro | with_reducible assumption | rfl | fail | trivial⟩⟩)⟩ | exact ⟨dt, rfl, hI, hF, (Or.inr ⟨_, rfl, ⟨by decide, by decide⟩, ⟨by first | exact True.intro | with_reducible assumption | rfl | fail | trivial, by first | exact True.intro | with_reducible assumption | rfl | fail | trivial, by first | exact True.intro | with_reducible assumption | rfl | fail | trivial⟩⟩)⟩
  · skip
    refine go_retq PM80 (k := 2) (r := some (.inl (-1))) (w1 := (SH, dt)) rfl ?_
    first | exact ⟨dt, rfl, hI, hF, (Or.inl ⟨rfl, ⟨by first | exact True.intro | with_reducible assumption | rfl | omega | trivial, by first | exact True.intro | with_reducible assumption | rfl | fail | trivial⟩⟩)⟩ | exact ⟨dt, rfl, hI, hF, (Or.inr ⟨_, rfl, ⟨by decide, by decide⟩, ⟨by first | exact True.intro | with_reducible assumption | rfl | fail | trivial, by first | exact True.intro | with_reducible assumption | rfl | fail | trivial, by first | exact True.intro | with_reducible assumption | rfl | fail | trivial⟩⟩)⟩
theorem sp_X5_eyes (L : Nat) (xs : Nat → Int32) (sio : Option Nat) (d : Nat) (dt : Nat → Nat → Int) (hI : InvC dt)  (p1 : Int) (h_p1 : (-2147483648) ≤ p1 ∧ p1 ≤ 2147483647) (p2 : Int) (h_p2 : (-2147483648) ≤ p2 ∧ p2 ≤ 2147483647)  : GO (am_XX L xs sio) (d + 2) 90 0 [some (.inr (.inr (some 0))), some (.inl p1), some (.inl p2)] [] (SH, dt) (fun r w2 => ∃ dt2 : Nat → Nat → Int, w2 = (SH, dt2) ∧ InvC dt2 ∧ Fr [14, 15] dt dt2 ∧ ((r = some (.inl (-1)) ∧ (¬ ((0 ≤ p1 ∧ p1 ≤ 9999) ∧ (0 ≤ p2 ∧ p2 ≤ 9999) ∧ dt 14 3 < 40)) ∧ (dt2 14 3 = dt 14 3)) ∨ (∃ v : Int, r = some (.inl v) ∧ ((-2147483648) ≤ v ∧ v ≤ 2147483647) ∧ (v = dt 14 3 + 1) ∧ ((0 ≤ p1 ∧ p1 ≤ 9999) ∧ (0 ≤ p2 ∧ p2 ≤ 9999) ∧ dt 14 3 < 40) ∧ (dt2 14 3 = dt 14 3 + 1)))) := by
  have hF : Fr [14, 15] dt dt := Fr_refl
  refine go_toq PM90 (k := 3) (pc' := 5) (L' := [some (.inr (.inr (some 0))), some (.inl p1), some (.inl p2)]) (st' := [.inl 9999, .inl 0, .inl p1]) (w' := (SH, dt)) rfl ?_
  refine go_callq PM90 PM100 (Q' := _) rfl rfl rfl rfl (sp_X5_within L xs sio (d + 1) dt hI  p1 (by first | exact h_p1 | exact bnd h_p1 (by decide) (by decide) | exact ⟨by fail, by fail⟩) 0 ⟨by decide, by decide⟩ 9999 ⟨by decide, by decide⟩ ) ?_
  rintro _ _ ⟨rfl, h1⟩
  refine ⟨rfl, ?_⟩
  rcases h1 with ⟨rfl, h1⟩ | ⟨rfl, h1⟩
  · skip
    refine go_toq PM90 (k := 4) (pc' := 16) (L' := [some (.inr (.inr (some 0))), some (.inl p1), some (.inl p2)]) (st' := [.inl 9999, .inl 0, .inl p2]) (w' := (SH, dt)) rfl ?_
    refine go_callq PM90 PM100 (Q' := _) rfl rfl rfl rfl (sp_X5_within L xs sio (d + 1) dt hI  p2 (by first | exact h_p2 | exact bnd h_p2 (by decide) (by decide) | exact ⟨by fail, by fail⟩) 0 ⟨by decide, by decide⟩ 9999 ⟨by decide, by decide⟩ ) ?_
    rintro _ _ ⟨rfl, h2⟩
    refine ⟨rfl, ?_⟩
    rcases h2 with ⟨rfl, h2⟩ | ⟨rfl, h2⟩
    · skip
      refine go_toq PM90 (k := 10) (pc' := 37) (L' := [some (.inr (.inr (some 0))), some (.inl p1), some (.inl p2)]) (st' := [.inl 0, .inl 0, .inl 0, .inl 0, .inl p2, .inl p1, .inr (.inr (some 14))]) (w' := (SH, dt)) rfl ?_
      have r3 : 0 ≤ dt 14 3 ∧ dt 14 3 ≤ 40 := InvC_get hI 14 3 rfl rfl
      refine go_callq PM90 PM40 (Q' := _) rfl rfl rfl rfl (sp_X2_add_14 L xs sio (d + 0) dt hI  p1 (by first | exact h_p1 | exact bnd h_p1 (by decide) (by decide) | exact ⟨by fail, by fail⟩) p2 (by first | exact h_p2 | exact bnd h_p2 (by decide) (by decide) | exact ⟨by fail, by fail⟩) 0 ⟨by decide, by decide⟩ 0 ⟨by decide, by decide⟩ 0 ⟨by decide, by decide⟩ 0 ⟨by decide, by decide⟩ ) ?_
      rintro _ _ ⟨dt5, rfl, hI6, hF7, h4⟩
      refine ⟨rfl, ?_⟩
      have hF8 : Fr [14, 15] dt dt5 := Fr_tr hF hF7 (by decide)
      rcases h4 with ⟨rfl, h4⟩ | ⟨v_h4, rfl, h4r, h4⟩
      · skip
        refine go_retq PM90 (k := 3) (r := some (.inl (-1))) (w1 := (SH, dt5)) rfl ?_
        first | exact ⟨dt5, rfl, hI6, hF8, (Or.inl ⟨rfl, ⟨by first | exact True.intro | with_reducible assumption | rfl | omega | trivial, by first | exact True.intro | with_reducible assumption | rfl | omega | trivial⟩⟩)⟩ | exact ⟨dt5, rfl, hI6, hF8, (Or.inr ⟨_, rfl, ⟨by decide, by decide⟩, ⟨by first | exact True.intro | with_reducible assumption | rfl | fail | trivial, by first | exact True.intro | with_reducible assumption | rfl | fail | trivial, by first | exact True.intro | with_reducible assumption | rfl | fail | trivial⟩⟩)⟩
      · skip
        refine go_ifq PM90 (k := 1) (p1 := 46) (p2 := 44) (L' := [some (.inr (.inr (some 0))), some (.inl p1), some (.inl p2)]) (st' := []) (w' := (SH, dt5)) rfl (c_ne (a := v_h4) (b := (-1)) (by first | exact bnd h4r (by decide) (by decide) | exact ⟨by fail, by fail⟩) ⟨by decide, by decide⟩) (fun c9 => ?_) (fun c9 => ?_)
        · skip
          replace c9 := hid c9
          have r10 : 0 ≤ dt5 14 3 ∧ dt5 14 3 ≤ 40 := InvC_get hI6 14 3 rfl rfl
          refine go_retq PM90 (k := 4) (r := some (.inl (dt5 14 3))) (w1 := (SH, dt5)) rfl ?_
          exact ⟨dt5, rfl, hI6, hF8, (Or.inr ⟨_, rfl, (by first | exact bnd r10 (by decide) (by decide) | exact ⟨by fail, by fail⟩), ⟨by first | exact True.intro | with_reducible assumption | exact unhid (by with_reducible assumption) | rfl | omega | trivial, by first | exact True.intro | with_reducible assumption | exact unhid (by with_reducible assumption) | rfl | omega | trivial, by first | exact True.intro | with_reducible assumption | exact unhid (by with_reducible assumption) | rfl | omega | trivial⟩⟩)⟩
        · exfalso; omega
    · skip
      refine go_retq PM90 (k := 2) (r := some (.inl (-1))) (w1 := (SH, dt)) rfl ?_
      first | exact ⟨dt, rfl, hI, hF, (Or.inl ⟨rfl, ⟨by first | exact True.intro | with_reducible assumption | rfl | omega | trivial, by first | exact True.intro | with_reducible assumption | rfl | fail | trivial⟩⟩)⟩ | exact ⟨dt, rfl, hI, hF, (Or.inr ⟨_, rfl, ⟨by decide, by decide⟩, ⟨by first | exact True.intro | with_reducible assumption | rfl | fail | trivial, by first | exact True.intro | with_reducible assumption | rfl | fail | trivial, by first | exact True.intro | with_reducible assumption | rfl | fail | trivial⟩⟩)⟩
  · skip
    refine go_retq PM90 (k := 2) (r := some (.inl (-1))) (w1 := (SH, dt)) rfl ?_
    first | exact ⟨dt, rfl, hI, hF, (Or.inl ⟨rfl, ⟨by first | exact True.intro | with_reducible assumption | rfl | omega | trivial, by first | exact True.intro | with_reducible assumption | rfl | fail | trivial⟩⟩)⟩ | exact ⟨dt, rfl, hI, hF, (Or.inr ⟨_, rfl, ⟨by decide, by decide⟩, ⟨by first | exact True.intro | with_reducible assumption | rfl | fail | trivial, by first | exact True.intro | with_reducible assumption | rfl | fail | trivial, by first | exact True.intro | with_reducible assumption | rfl | fail | trivial⟩⟩)⟩
theorem sp_X5_house (L : Nat) (xs : Nat → Int32) (sio : Option Nat) (d : Nat) (dt : Nat → Nat → Int) (hI : InvC dt)  (p1 : Int) (h_p1 : (-2147483648) ≤ p1 ∧ p1 ≤ 2147483647) (p2 : Int) (h_p2 : (-2147483648) ≤ p2 ∧ p2 ≤ 2147483647)  : GO (am_XX L xs sio) (d + 2) 92 0 [some (.inr (.inr (some 0))), some (.inl p1), some (.inl p2)] [] (SH, dt) (fun r w2 => ∃ dt2 : Nat → Nat → Int, w2 = (SH, dt2) ∧ InvC dt2 ∧ Fr [16, 17] dt dt2 ∧ ((r = some (.inl (-1)) ∧ (¬ ((1 ≤ p1 ∧ p1 ≤ 999) ∧ (0 ≤ p2 ∧ p2 ≤ p1) ∧ dt 16 3 < 20)) ∧ (dt2 16 3 = dt 16 3)) ∨ (∃ v : Int, r = some (.inl v) ∧ ((-2147483648) ≤ v ∧ v ≤ 2147483647) ∧ (v = dt 16 3) ∧ ((1 ≤ p1 ∧ p1 ≤ 999) ∧ (0 ≤ p2 ∧ p2 ≤ p1) ∧ dt 16 3 < 20) ∧ (dt2 16 3 = dt 16 3 + 1)))) := by
  have hF : Fr [16, 17] dt dt := Fr_refl
  refine go_toq PM92 (k := 3) (pc' := 5) (L' := [some (.inr (.inr (some 0))), some (.inl p1), some (.inl p2)]) (st' := [.inl 999, .inl 1, .inl p1]) (w' := (SH, dt)) rfl ?_
  refine go_callq PM92 PM100 (Q' := _) rfl rfl rfl rfl (sp_X5_within L xs sio (d + 1) dt hI  p1 (by first | exact h_p1 | exact bnd h_p1 (by decide) (by decide) | exact ⟨by fail, by fail⟩) 1 ⟨by decide, by decide⟩ 999 ⟨by decide, by decide⟩ ) ?_
  rintro _ _ ⟨rfl, h1⟩
  refine ⟨rfl, ?_⟩
  rcases h1 with ⟨rfl, h1⟩ | ⟨rfl, h1⟩
  · skip
    refine go_toq PM92 (k := 4) (pc' := 14) (L' := [some (.inr (.inr (some 0))), some (.inl p1), some (.inl p2)]) (st' := [.inl p1, .inl 0, .inl p2]) (w' := (SH, dt)) rfl ?_
    refine go_callq PM92 PM100 (Q' := _) rfl rfl rfl rfl (sp_X5_within L xs sio (d + 1) dt hI  p2 (by first | exact h_p2 | exact bnd h_p2 (by decide) (by decide) | exact ⟨by fail, by fail⟩) 0 ⟨by decide, by decide⟩ p1 (by first | exact h_p1 | exact bnd h_p1 (by decide) (by decide) | exact ⟨by fail, by fail⟩) ) ?_
    rintro _ _ ⟨rfl, h2⟩
    refine ⟨rfl, ?_⟩
    rcases h2 with ⟨rfl, h2⟩ | ⟨rfl, h2⟩
    · skip
      refine go_toq PM92 (k := 10) (pc' := 35) (L' := [some (.inr (.inr (some 0))), some (.inl p1), some (.inl p2)]) (st' := [.inl 0, .inl 0, .inl 0, .inl 0, .inl p2, .inl p1, .inr (.inr (some 16))]) (w' := (SH, dt)) rfl ?_
      have r3 : 0 ≤ dt 16 3 ∧ dt 16 3 ≤ 20 := InvC_get hI 16 3 rfl rfl
      refine go_callq PM92 PM40 (Q' := _) rfl rfl rfl rfl (sp_X2_add_16 L xs sio (d + 0) dt hI  p1 (by first | exact h_p1 | exact bnd h_p1 (by decide) (by decide) | exact ⟨by fail, by fail⟩) p2 (by first | exact h_p2 | exact bnd h_p2 (by decide) (by decide) | exact ⟨by fail, by fail⟩) 0 ⟨by decide, by decide⟩ 0 ⟨by decide, by decide⟩ 0 ⟨by decide, by decide⟩ 0 ⟨by decide, by decide⟩ ) ?_
      rintro _ _ ⟨dt5, rfl, hI6, hF7, h4⟩
      refine ⟨rfl, ?_⟩
      have hF8 : Fr [16, 17] dt dt5 := Fr_tr hF hF7 (by decide)
      rcases h4 with ⟨rfl, h4⟩ | ⟨v_h4, rfl, h4r, h4⟩
      · skip
        refine go_retq PM92 (k := 0) (r := some (.inl (-1))) (w1 := (SH, dt5)) rfl ?_
        first | exact ⟨dt5, rfl, hI6, hF8, (Or.inl ⟨rfl, ⟨by first | exact True.intro | with_reducible assumption | rfl | omega | trivial, by first | exact True.intro | with_reducible assumption | rfl | omega | trivial⟩⟩)⟩ | exact ⟨dt5, rfl, hI6, hF8, (Or.inr ⟨_, rfl, ⟨by decide, by decide⟩, ⟨by first | exact True.intro | with_reducible assumption | rfl | fail | trivial, by first | exact True.intro | with_reducible assumption | rfl | fail | trivial, by first | exact True.intro | with_reducible assumption | rfl | fail | trivial⟩⟩)⟩
      · skip
        refine go_retq PM92 (k := 0) (r := some (.inl v_h4)) (w1 := (SH, dt5)) rfl ?_
        exact ⟨dt5, rfl, hI6, hF8, (Or.inr ⟨_, rfl, (by first | exact bnd h4r (by decide) (by decide) | exact ⟨by fail, by fail⟩), ⟨by first | exact True.intro | with_reducible assumption | rfl | omega | trivial, by first | exact True.intro | with_reducible assumption | rfl | omega | trivial, by first | exact True.intro | with_reducible assumption | rfl | omega | trivial⟩⟩)⟩
    · skip
      refine go_retq PM92 (k := 2) (r := some (.inl (-1))) (w1 := (SH, dt)) rfl ?_
      first | exact ⟨dt, rfl, hI, hF, (Or.inl ⟨rfl, ⟨by first | exact True.intro | with_reducible assumption | rfl | omega | trivial, by first | exact True.intro | with_reducible assumption | rfl | fail | trivial⟩⟩)⟩ | exact ⟨dt, rfl, hI, hF, (Or.inr ⟨_, rfl, ⟨by decide, by decide⟩, ⟨by first | exact True.intro | with_reducible assumption | rfl | fail | trivial, by first | exact True.intro | with_reducible assumption | rfl | fail | trivial, by first | exact True.intro | with_reducible assumption | rfl | fail | trivial⟩⟩)⟩
  · skip
    refine go_retq PM92 (k := 2) (r := some (.inl (-1))) (w1 := (SH, dt)) rfl ?_
    first | exact ⟨dt, rfl, hI, hF, (Or.inl ⟨rfl, ⟨by first | exact True.intro | with_reducible assumption | rfl | omega | trivial, by first | exact True.intro | with_reducible assumption | rfl | fail | trivial⟩⟩)⟩ | exact ⟨dt, rfl, hI, hF, (Or.inr ⟨_, rfl, ⟨by decide, by decide⟩, ⟨by first | exact True.intro | with_reducible assumption | rfl | fail | trivial, by first | exact True.intro | with_reducible assumption | rfl | fail | trivial, by first | exact True.intro | with_reducible assumption | rfl | fail | trivial⟩⟩)⟩
theorem sp_X5_look (L : Nat) (xs : Nat → Int32) (sio : Option Nat) (d : Nat) (dt : Nat → Nat → Int) (hI : InvC dt)  (p1 : Int) (h_p1 : (-2147483648) ≤ p1 ∧ p1 ≤ 2147483647)  : GO (am_XX L xs sio) (d) 99 0 [some (.inr (.inr (some 0))), some (.inl p1)] [] (SH, dt) (fun r w2 => w2 = (SH, dt) ∧ ((r = some (.inl (dt 7 3)) ∧ (p1 = 0)) ∨ (r = some (.inl (dt 10 3)) ∧ (p1 = 1)) ∨ (r = some (.inl (dt 12 3)) ∧ (p1 = 2)) ∨ (r = some (.inl (dt 14 3)) ∧ (p1 = 3)) ∨ (r = some (.inl (dt 16 3)) ∧ (p1 = 4)) ∨ (r = some (.inl (dt 1 0)) ∧ (p1 = 5)) ∨ (r = some (.inl 1) ∧ (p1 = 6) ∧ (dt 0 2 = 1)) ∨ (r = some (.inl 0) ∧ (p1 = 6) ∧ (dt 0 2 = 0)) ∨ (r = some (.inl (-1)) ∧ (¬ (0 ≤ p1 ∧ p1 ≤ 6))))) := by
  have r1 := wr_RR p1
  refine go_toq PM99 (k := 1) (pc' := 1) (L' := [some (.inr (.inr (some 0))), some (.inl p1)]) (st' := [.inl p1]) (w' := (SH, dt)) rfl ?_
  have e3 : wr p1 = p1 := wr_R ⟨by omega, by omega⟩
  by_cases c2 : wr p1 < 0 ∨ 6 < wr p1
  · refine go_swoq PM99 (p1 := 120) (lo := 0) (hi := 6) rfl rfl c2 ?_
    refine go_retq PM99 (k := 1) (r := some (.inl (-1))) (w1 := (SH, dt)) rfl ?_
    first | exact ⟨rfl, (Or.inl ⟨rfl, by first | exact True.intro | with_reducible assumption | rfl | fail | trivial⟩)⟩ | exact ⟨rfl, (Or.inr (Or.inl ⟨rfl, by first | exact True.intro | with_reducible assumption | rfl | fail | trivial⟩))⟩ | exact ⟨rfl, (Or.inr (Or.inr (Or.inl ⟨rfl, by first | exact True.intro | with_reducible assumption | rfl | fail | trivial⟩)))⟩ | exact ⟨rfl, (Or.inr (Or.inr (Or.inr (Or.inl ⟨rfl, by first | exact True.intro | with_reducible assumption | rfl | fail | trivial⟩))))⟩ | exact ⟨rfl, (Or.inr (Or.inr (Or.inr (Or.inr (Or.inl ⟨rfl, by first | exact True.intro | with_reducible assumption | rfl | fail | trivial⟩)))))⟩ | exact ⟨rfl, (Or.inr (Or.inr (Or.inr (Or.inr (Or.inr (Or.inl ⟨rfl, by first | exact True.intro | with_reducible assumption | rfl | fail | trivial⟩))))))⟩ | exact ⟨rfl, (Or.inr (Or.inr (Or.inr (Or.inr (Or.inr (Or.inr (Or.inr (Or.inr ⟨rfl, by first | exact True.intro | with_reducible assumption | rfl | omega | trivial⟩))))))))⟩
  · have c4 : wr p1 = 0 ∨ wr p1 = 1 ∨ wr p1 = 2 ∨ wr p1 = 3 ∨ wr p1 = 4 ∨ wr p1 = 5 ∨ wr p1 = 6 := by omega
    rcases c4 with c4 | c4 | c4 | c4 | c4 | c4 | c4
    · refine go_swiq PM99 (v := 0) (p1 := 44) (lo := 0) (hi := 6) rfl c4 (by decide) rfl ?_
      have r5 : 0 ≤ dt 7 3 ∧ dt 7 3 ≤ 12 := InvC_get hI 7 3 rfl rfl
      refine go_retq PM99 (k := 4) (r := some (.inl (dt 7 3))) (w1 := (SH, dt)) rfl ?_
      first | exact ⟨rfl, (Or.inl ⟨rfl, by first | exact True.intro | with_reducible assumption | rfl | omega | trivial⟩)⟩ | exact ⟨rfl, (Or.inr (Or.inl ⟨rfl, by first | exact True.intro | with_reducible assumption | rfl | fail | trivial⟩))⟩ | exact ⟨rfl, (Or.inr (Or.inr (Or.inl ⟨rfl, by first | exact True.intro | with_reducible assumption | rfl | fail | trivial⟩)))⟩ | exact ⟨rfl, (Or.inr (Or.inr (Or.inr (Or.inl ⟨rfl, by first | exact True.intro | with_reducible assumption | rfl | fail | trivial⟩))))⟩ | exact ⟨rfl, (Or.inr (Or.inr (Or.inr (Or.inr (Or.inl ⟨rfl, by first | exact True.intro | with_reducible assumption | rfl | fail | trivial⟩)))))⟩ | exact ⟨rfl, (Or.inr (Or.inr (Or.inr (Or.inr (Or.inr (Or.inl ⟨rfl, by first | exact True.intro | with_reducible assumption | rfl | fail | trivial⟩))))))⟩
    · refine go_swiq PM99 (v := 1) (p1 := 55) (lo := 0) (hi := 6) rfl c4 (by decide) rfl ?_
      have r6 : 0 ≤ dt 10 3 ∧ dt 10 3 ≤ 40 := InvC_get hI 10 3 rfl rfl
      refine go_retq PM99 (k := 4) (r := some (.inl (dt 10 3))) (w1 := (SH, dt)) rfl ?_
      first | exact ⟨rfl, (Or.inl ⟨rfl, by first | exact True.intro | with_reducible assumption | rfl | fail | trivial⟩)⟩ | exact ⟨rfl, (Or.inr (Or.inl ⟨rfl, by first | exact True.intro | with_reducible assumption | rfl | omega | trivial⟩))⟩ | exact ⟨rfl, (Or.inr (Or.inr (Or.inl ⟨rfl, by first | exact True.intro | with_reducible assumption | rfl | fail | trivial⟩)))⟩ | exact ⟨rfl, (Or.inr (Or.inr (Or.inr (Or.inl ⟨rfl, by first | exact True.intro | with_reducible assumption | rfl | fail | trivial⟩))))⟩ | exact ⟨rfl, (Or.inr (Or.inr (Or.inr (Or.inr (Or.inl ⟨rfl, by first | exact True.intro | with_reducible assumption | rfl | fail | trivial⟩)))))⟩ | exact ⟨rfl, (Or.inr (Or.inr (Or.inr (Or.inr (Or.inr (Or.inl ⟨rfl, by first | exact True.intro | with_reducible assumption | rfl | fail | trivial⟩))))))⟩
    · refine go_swiq PM99 (v := 2) (p1 := 66) (lo := 0) (hi := 6) rfl c4 (by decide) rfl ?_
      have r7 : 0 ≤ dt 12 3 ∧ dt 12 3 ≤ 300 := InvC_get hI 12 3 rfl rfl
      refine go_retq PM99 (k := 4) (r := some (.inl (dt 12 3))) (w1 := (SH, dt)) rfl ?_
      first | exact ⟨rfl, (Or.inl ⟨rfl, by first | exact True.intro | with_reducible assumption | rfl | fail | trivial⟩)⟩ | exact ⟨rfl, (Or.inr (Or.inl ⟨rfl, by first | exact True.intro | with_reducible assumption | rfl | fail | trivial⟩))⟩ | exact ⟨rfl, (Or.inr (Or.inr (Or.inl ⟨rfl, by first | exact True.intro | with_reducible assumption | rfl | omega | trivial⟩)))⟩ | exact ⟨rfl, (Or.inr (Or.inr (Or.inr (Or.inl ⟨rfl, by first | exact True.intro | with_reducible assumption | rfl | fail | trivial⟩))))⟩ | exact ⟨rfl, (Or.inr (Or.inr (Or.inr (Or.inr (Or.inl ⟨rfl, by first | exact True.intro | with_reducible assumption | rfl | fail | trivial⟩)))))⟩ | exact ⟨rfl, (Or.inr (Or.inr (Or.inr (Or.inr (Or.inr (Or.inl ⟨rfl, by first | exact True.intro | with_reducible assumption | rfl | fail | trivial⟩))))))⟩
    · refine go_swiq PM99 (v := 3) (p1 := 77) (lo := 0) (hi := 6) rfl c4 (by decide) rfl ?_
      have r8 : 0 ≤ dt 14 3 ∧ dt 14 3 ≤ 40 := InvC_get hI 14 3 rfl rfl
      refine go_retq PM99 (k := 4) (r := some (.inl (dt 14 3))) (w1 := (SH, dt)) rfl ?_
      first | exact ⟨rfl, (Or.inl ⟨rfl, by first | exact True.intro | with_reducible assumption | rfl | fail | trivial⟩)⟩ | exact ⟨rfl, (Or.inr (Or.inl ⟨rfl, by first | exact True.intro | with_reducible assumption | rfl | fail | trivial⟩))⟩ | exact ⟨rfl, (Or.inr (Or.inr (Or.inl ⟨rfl, by first | exact True.intro | with_reducible assumption | rfl | fail | trivial⟩)))⟩ | exact ⟨rfl, (Or.inr (Or.inr (Or.inr (Or.inl ⟨rfl, by first | exact True.intro | with_reducible assumption | rfl | omega | trivial⟩))))⟩ | exact ⟨rfl, (Or.inr (Or.inr (Or.inr (Or.inr (Or.inl ⟨rfl, by first | exact True.intro | with_reducible assumption | rfl | fail | trivial⟩)))))⟩ | exact ⟨rfl, (Or.inr (Or.inr (Or.inr (Or.inr (Or.inr (Or.inl ⟨rfl, by first | exact True.intro | with_reducible assumption | rfl | fail | trivial⟩))))))⟩
    · refine go_swiq PM99 (v := 4) (p1 := 88) (lo := 0) (hi := 6) rfl c4 (by decide) rfl ?_
      have r9 : 0 ≤ dt 16 3 ∧ dt 16 3 ≤ 20 := InvC_get hI 16 3 rfl rfl
      refine go_retq PM99 (k := 4) (r := some (.inl (dt 16 3))) (w1 := (SH, dt)) rfl ?_
      first | exact ⟨rfl, (Or.inl ⟨rfl, by first | exact True.intro | with_reducible assumption | rfl | fail | trivial⟩)⟩ | exact ⟨rfl, (Or.inr (Or.inl ⟨rfl, by first | exact True.intro | with_reducible assumption | rfl | fail | trivial⟩))⟩ | exact ⟨rfl, (Or.inr (Or.inr (Or.inl ⟨rfl, by first | exact True.intro | with_reducible assumption | rfl | fail | trivial⟩)))⟩ | exact ⟨rfl, (Or.inr (Or.inr (Or.inr (Or.inl ⟨rfl, by first | exact True.intro | with_reducible assumption | rfl | fail | trivial⟩))))⟩ | exact ⟨rfl, (Or.inr (Or.inr (Or.inr (Or.inr (Or.inl ⟨rfl, by first | exact True.intro | with_reducible assumption | rfl | omega | trivial⟩)))))⟩ | exact ⟨rfl, (Or.inr (Or.inr (Or.inr (Or.inr (Or.inr (Or.inl ⟨rfl, by first | exact True.intro | with_reducible assumption | rfl | fail | trivial⟩))))))⟩
    · refine go_swiq PM99 (v := 5) (p1 := 99) (lo := 0) (hi := 6) rfl c4 (by decide) rfl ?_
      have r10 : (-2147483648) ≤ dt 1 0 ∧ dt 1 0 ≤ 2147483647 := InvC_get hI 1 0 rfl rfl
      refine go_retq PM99 (k := 3) (r := some (.inl (dt 1 0))) (w1 := (SH, dt)) rfl ?_
      first | exact ⟨rfl, (Or.inl ⟨rfl, by first | exact True.intro | with_reducible assumption | rfl | fail | trivial⟩)⟩ | exact ⟨rfl, (Or.inr (Or.inl ⟨rfl, by first | exact True.intro | with_reducible assumption | rfl | fail | trivial⟩))⟩ | exact ⟨rfl, (Or.inr (Or.inr (Or.inl ⟨rfl, by first | exact True.intro | with_reducible assumption | rfl | fail | trivial⟩)))⟩ | exact ⟨rfl, (Or.inr (Or.inr (Or.inr (Or.inl ⟨rfl, by first | exact True.intro | with_reducible assumption | rfl | fail | trivial⟩))))⟩ | exact ⟨rfl, (Or.inr (Or.inr (Or.inr (Or.inr (Or.inl ⟨rfl, by first | exact True.intro | with_reducible assumption | rfl | fail | trivial⟩)))))⟩ | exact ⟨rfl, (Or.inr (Or.inr (Or.inr (Or.inr (Or.inr (Or.inl ⟨rfl, by first | exact True.intro | with_reducible assumption | rfl | omega | trivial⟩))))))⟩
    · refine go_swiq PM99 (v := 6) (p1 := 107) (lo := 0) (hi := 6) rfl c4 (by decide) rfl ?_
      have r11 : 0 ≤ dt 0 2 ∧ dt 0 2 ≤ 1 := InvC_get hI 0 2 rfl rfl
      refine go_ifq PM99 (k := 2) (p1 := 118) (p2 := 114) (L' := [some (.inr (.inr (some 0))), some (.inl p1)]) (st' := []) (w' := (SH, dt)) rfl (z_eq (a := dt 0 2) (by first | exact bnd r11 (by decide) (by decide) | exact ⟨by fail, by fail⟩)) (fun c12 => ?_) (fun c12 => ?_)
      · skip
        refine go_retq PM99 (k := 1) (r := some (.inl 0)) (w1 := (SH, dt)) rfl ?_
        first | exact ⟨rfl, (Or.inl ⟨rfl, by first | exact True.intro | with_reducible assumption | rfl | fail | trivial⟩)⟩ | exact ⟨rfl, (Or.inr (Or.inl ⟨rfl, by first | exact True.intro | with_reducible assumption | rfl | fail | trivial⟩))⟩ | exact ⟨rfl, (Or.inr (Or.inr (Or.inl ⟨rfl, by first | exact True.intro | with_reducible assumption | rfl | fail | trivial⟩)))⟩ | exact ⟨rfl, (Or.inr (Or.inr (Or.inr (Or.inl ⟨rfl, by first | exact True.intro | with_reducible assumption | rfl | fail | trivial⟩))))⟩ | exact ⟨rfl, (Or.inr (Or.inr (Or.inr (Or.inr (Or.inl ⟨rfl, by first | exact True.intro | with_reducible assumption | rfl | fail | trivial⟩)))))⟩ | exact ⟨rfl, (Or.inr (Or.inr (Or.inr (Or.inr (Or.inr (Or.inl ⟨rfl, by first | exact True.intro | with_reducible assumption | rfl | fail | trivial⟩))))))⟩ | exact ⟨rfl, (Or.inr (Or.inr (Or.inr (Or.inr (Or.inr (Or.inr (Or.inr (Or.inl ⟨rfl, ⟨by first | exact True.intro | with_reducible assumption | rfl | omega | trivial, by first | exact True.intro | with_reducible assumption | rfl | fail | trivial⟩⟩))))))))⟩
      · skip
        have qc12 : 1 ≤ dt 0 2 := by omega
        replace c12 := hid c12
        refine go_retq PM99 (k := 2) (r := some (.inl 1)) (w1 := (SH, dt)) rfl ?_
        first | exact ⟨rfl, (Or.inl ⟨rfl, by first | exact True.intro | with_reducible assumption | exact unhid (by with_reducible assumption) | rfl | fail | trivial⟩)⟩ | exact ⟨rfl, (Or.inr (Or.inl ⟨rfl, by first | exact True.intro | with_reducible assumption | exact unhid (by with_reducible assumption) | rfl | fail | trivial⟩))⟩ | exact ⟨rfl, (Or.inr (Or.inr (Or.inl ⟨rfl, by first | exact True.intro | with_reducible assumption | exact unhid (by with_reducible assumption) | rfl | fail | trivial⟩)))⟩ | exact ⟨rfl, (Or.inr (Or.inr (Or.inr (Or.inl ⟨rfl, by first | exact True.intro | with_reducible assumption | exact unhid (by with_reducible assumption) | rfl | fail | trivial⟩))))⟩ | exact ⟨rfl, (Or.inr (Or.inr (Or.inr (Or.inr (Or.inl ⟨rfl, by first | exact True.intro | with_reducible assumption | exact unhid (by with_reducible assumption) | rfl | fail | trivial⟩)))))⟩ | exact ⟨rfl, (Or.inr (Or.inr (Or.inr (Or.inr (Or.inr (Or.inl ⟨rfl, by first | exact True.intro | with_reducible assumption | exact unhid (by with_reducible assumption) | rfl | fail | trivial⟩))))))⟩ | exact ⟨rfl, (Or.inr (Or.inr (Or.inr (Or.inr (Or.inr (Or.inr (Or.inl ⟨rfl, ⟨by first | exact True.intro | with_reducible assumption | exact unhid (by with_reducible assumption) | rfl | omega | trivial, by first | exact True.intro | with_reducible assumption | exact unhid (by with_reducible assumption) | rfl | omega | trivial⟩⟩)))))))⟩
theorem sp_X5_weight (L : Nat) (xs : Nat → Int32) (sio : Option Nat) (d : Nat) (dt : Nat → Nat → Int) (hI : InvC dt)  (p1 : Int) (h_p1 : (-2147483648) ≤ p1 ∧ p1 ≤ 2147483647) (p2 : Int) (h_p2 : (-2147483648) ≤ p2 ∧ p2 ≤ 2147483647) (p3 : Int) (h_p3 : (-2147483648) ≤ p3 ∧ p3 ≤ 2147483647) (p4 : Int) (h_p4 : (-2147483648) ≤ p4 ∧ p4 ≤ 2147483647)  : GO (am_XX L xs sio) (d + 5) 78 0 [some (.inr (.inr (some 0))), some (.inl p1), some (.inl p2), some (.inl p3), some (.inl p4)] [] (SH, dt) (fun r w2 => ∃ dt2 : Nat → Nat → Int, w2 = (SH, dt2) ∧ InvC dt2 ∧ Fr [71, 72, 73, 74] dt dt2 ∧ ((∃ v : Int, r = some (.inl v) ∧ ((-1) ≤ v ∧ v ≤ 100) ∧ True))) := by
  have hF : Fr [71, 72, 73, 74] dt dt := Fr_refl
  refine go_toq PM78 (k := 4) (pc' := 4) (L' := [some (.inr (.inr (some 0))), some (.inl p1), some (.inl p2), some (.inl p3), some (.inl p4)]) (st' := [.inl p3, .inl p2, .inl p1, .inr (.inr (some 0))]) (w' := (SH, dt)) rfl ?_
  have r1 : 0 ≤ dt 10 3 ∧ dt 10 3 ≤ 40 := InvC_get hI 10 3 rfl rfl
  have r2 : 0 ≤ dt 7 3 ∧ dt 7 3 ≤ 12 := InvC_get hI 7 3 rfl rfl
  refine go_callq PM78 PM108 (Q' := _) rfl rfl rfl rfl (sp_X5_canAsk L xs sio (d + 3) dt hI  p1 (by first | exact h_p1 | exact bnd h_p1 (by decide) (by decide) | exact ⟨by omega, by omega⟩) p2 (by first | exact h_p2 | exact bnd h_p2 (by decide) (by decide) | exact ⟨by omega, by omega⟩) p3 (by first | exact h_p3 | exact bnd h_p3 (by decide) (by decide) | exact ⟨by omega, by omega⟩) ) ?_
  rintro _ _ ⟨rfl, h3⟩
  refine ⟨rfl, ?_⟩
  rcases h3 with ⟨rfl, h3⟩ | ⟨rfl, h3⟩
  · skip
    refine go_toq PM78 (k := 4) (pc' := 15) (L' := [some (.inr (.inr (some 0))), some (.inl p1), some (.inl p2), some (.inl p3), some (.inl p4)]) (st' := [.inl 8, .inl 0, .inl p4]) (w' := (SH, dt)) rfl ?_
    refine go_callq PM78 PM100 (Q' := _) rfl rfl rfl rfl (sp_X5_within L xs sio (d + 4) dt hI  p4 (by first | exact h_p4 | exact bnd h_p4 (by decide) (by decide) | exact ⟨by omega, by omega⟩) 0 ⟨by decide, by decide⟩ 8 ⟨by decide, by decide⟩ ) ?_
    rintro _ _ ⟨rfl, h4⟩
    refine ⟨rfl, ?_⟩
    rcases h4 with ⟨rfl, h4⟩ | ⟨rfl, h4⟩
    · skip
      refine go_toq PM78 (k := 4) (pc' := 26) (L' := [some (.inr (.inr (some 0))), some (.inl p1), some (.inl p2), some (.inl p3), some (.inl p4)]) (st' := [.inl p1, .inr (.inr (some 0)), .inr (.inr (some 0))]) (w' := (SH, dt)) rfl ?_
      refine go_callq PM78 PM109 (Q' := _) rfl rfl rfl rfl (sp_X5_lawOf L xs sio (d + 2) dt hI  p1 (by first | exact h_p1 | exact bnd h_p1 (by decide) (by decide) | exact ⟨by omega, by omega⟩) ) ?_
      rintro _ _ ⟨rfl, h5⟩
      refine ⟨rfl, ?_⟩
      rcases h5 with ⟨v_h5, rfl, h5r, h5⟩
      refine go_toq PM78 (k := 3) (pc' := 32) (L' := [some (.inr (.inr (some 0))), some (.inl p1), some (.inl p2), some (.inl p3), some (.inl p4)]) (st' := [.inl p3, .inl p2, .inl p1, .inl v_h5, .inr (.inr (some 0))]) (w' := (SH, dt)) rfl ?_
      refine go_callq PM78 PM118 (Q' := _) rfl rfl rfl rfl (sp_X5_weigh L xs sio (d + 0) dt hI  v_h5 (by first | exact bnd h5r (by decide) (by decide) | exact ⟨by omega, by omega⟩) p1 (by first | exact h_p1 | exact bnd h_p1 (by decide) (by decide) | exact ⟨by omega, by omega⟩) p2 (by first | exact h_p2 | exact bnd h_p2 (by decide) (by decide) | exact ⟨by omega, by omega⟩) p3 (by first | exact h_p3 | exact bnd h_p3 (by decide) (by decide) | exact ⟨by omega, by omega⟩) ) ?_
      rintro _ _ ⟨dt7, rfl, hI8, hF9, h6⟩
      refine ⟨rfl, ?_⟩
      have hF10 : Fr [71, 72, 73, 74] dt dt7 := Fr_tr hF hF9 (by decide)
      rcases h6 with ⟨rfl, h6⟩
      refine go_toq PM78 (k := 4) (pc' := 44) (L' := [some (.inr (.inr (some 0))), some (.inl p1), some (.inl p2), some (.inl p3), some (.inl p4)]) (st' := [.inl p4, .inr (.inr (some 72))]) (w' := (SH, dt7)) rfl ?_
      have r11 : 0 ≤ dt7 72 (p4).toNat ∧ dt7 72 (p4).toNat ≤ 100 := InvC_get hI8 72 (p4).toNat rfl rfl
      refine go_smpq PM78 (L' := [some (.inr (.inr (some 0))), some (.inl p1), some (.inl p2), some (.inl p3), some (.inl p4)]) (st' := [.inl (dt7 72 (p4).toNat)]) (w' := (SH, dt7)) rfl rfl (s_iald (n := 9) (f := dt7 72) rfl (by first | exact bndx h_p4 (by decide) (by decide) | exact ⟨by omega, by omega⟩)) ?_
      refine go_retq PM78 (k := 0) (r := some (.inl (dt7 72 (p4).toNat))) (w1 := (SH, dt7)) rfl ?_
      exact ⟨dt7, rfl, hI8, hF10, ⟨_, rfl, (by first | exact bnd r11 (by decide) (by decide) | exact ⟨by omega, by omega⟩), trivial⟩⟩
    · skip
      refine go_retq PM78 (k := 2) (r := some (.inl (-1))) (w1 := (SH, dt)) rfl ?_
      exact ⟨dt, rfl, hI, hF, ⟨_, rfl, ⟨by decide, by decide⟩, trivial⟩⟩
  · skip
    refine go_retq PM78 (k := 2) (r := some (.inl (-1))) (w1 := (SH, dt)) rfl ?_
    exact ⟨dt, rfl, hI, hF, ⟨_, rfl, ⟨by decide, by decide⟩, trivial⟩⟩
theorem sp_X5_answer (L : Nat) (xs : Nat → Int32) (sio : Option Nat) (d : Nat) (dt : Nat → Nat → Int) (hI : InvC dt)  (p1 : Int) (h_p1 : (-2147483648) ≤ p1 ∧ p1 ≤ 2147483647) (p2 : Int) (h_p2 : (-2147483648) ≤ p2 ∧ p2 ≤ 2147483647)  : GO (am_XX L xs sio) (d + 2) 81 0 [some (.inr (.inr (some 0))), some (.inl p1), some (.inl p2)] [] (SH, dt) (fun r w2 => w2 = (SH, dt) ∧ ((∃ v : Int, r = some (.inl v) ∧ ((-2147483648) ≤ v ∧ v ≤ 2147483647) ∧ True))) := by
  refine go_toq PM81 (k := 4) (pc' := 8) (L' := [some (.inr (.inr (some 0))), some (.inl p1), some (.inl p2)]) (st' := [.inl p1, .inr (.inr (some 12))]) (w' := (SH, dt)) rfl ?_
  have r1 : 0 ≤ dt 12 3 ∧ dt 12 3 ≤ 300 := InvC_get hI 12 3 rfl rfl
  refine go_callq PM81 PM37 (Q' := _) rfl rfl rfl rfl (sp_X2_has_12 L xs sio (d + 1) dt hI  p1 (by first | exact h_p1 | exact bnd h_p1 (by decide) (by decide) | exact ⟨by fail, by fail⟩) ) ?_
  rintro _ _ ⟨rfl, h2⟩
  refine ⟨rfl, ?_⟩
  rcases h2 with ⟨rfl, h2⟩ | ⟨rfl, h2⟩
  · skip
    refine go_toq PM81 (k := 4) (pc' := 17) (L' := [some (.inr (.inr (some 0))), some (.inl p1), some (.inl p2)]) (st' := [.inl 5, .inl 0, .inl p2]) (w' := (SH, dt)) rfl ?_
    refine go_callq PM81 PM100 (Q' := _) rfl rfl rfl rfl (sp_X5_within L xs sio (d + 1) dt hI  p2 (by first | exact h_p2 | exact bnd h_p2 (by decide) (by decide) | exact ⟨by fail, by fail⟩) 0 ⟨by decide, by decide⟩ 5 ⟨by decide, by decide⟩ ) ?_
    rintro _ _ ⟨rfl, h3⟩
    refine ⟨rfl, ?_⟩
    rcases h3 with ⟨rfl, h3⟩ | ⟨rfl, h3⟩
    · skip
      refine go_toq PM81 (k := 6) (pc' := 35) (L' := [some (.inr (.inr (some 0))), some (.inl p1), some (.inl p2)]) (st' := [.inl p2, .inl p1, .inr (.inr (some 12))]) (w' := (SH, dt)) rfl ?_
      refine go_callq PM81 PM39 (Q' := _) rfl rfl rfl rfl (sp_X2_at_12 L xs sio (d + 0) dt hI  p1 (by first | exact h_p1 | exact bnd h_p1 (by decide) (by decide) | exact ⟨by fail, by fail⟩) p2 (by first | exact h_p2 | exact bnd h_p2 (by decide) (by decide) | exact ⟨by fail, by fail⟩) ) ?_
      rintro _ _ ⟨rfl, h4⟩
      refine ⟨rfl, ?_⟩
      rcases h4 with ⟨v_h4, rfl, h4r, h4⟩
      refine go_retq PM81 (k := 0) (r := some (.inl v_h4)) (w1 := (SH, dt)) rfl ?_
      exact ⟨rfl, ⟨_, rfl, (by first | exact bnd h4r (by decide) (by decide) | exact ⟨by fail, by fail⟩), trivial⟩⟩
    · skip
      refine go_retq PM81 (k := 2) (r := some (.inl (-2))) (w1 := (SH, dt)) rfl ?_
      exact ⟨rfl, ⟨_, rfl, ⟨by decide, by decide⟩, trivial⟩⟩
  · skip
    refine go_retq PM81 (k := 2) (r := some (.inl (-2))) (w1 := (SH, dt)) rfl ?_
    exact ⟨rfl, ⟨_, rfl, ⟨by decide, by decide⟩, trivial⟩⟩
theorem sp_X5_chance (L : Nat) (xs : Nat → Int32) (sio : Option Nat) (d : Nat) (dt : Nat → Nat → Int) (hI : InvC dt)  (p1 : Int) (h_p1 : (-2147483648) ≤ p1 ∧ p1 ≤ 2147483647) (p2 : Int) (h_p2 : (-2147483648) ≤ p2 ∧ p2 ≤ 2147483647) (p3 : Int) (h_p3 : (-2147483648) ≤ p3 ∧ p3 ≤ 2147483647) (p4 : Int) (h_p4 : (-2147483648) ≤ p4 ∧ p4 ≤ 2147483647) (p5 : Int) (h_p5 : (-2147483648) ≤ p5 ∧ p5 ≤ 2147483647)  : GO (am_XX L xs sio) (d + 5) 82 0 [some (.inr (.inr (some 0))), some (.inl p1), some (.inl p2), some (.inl p3), some (.inl p4), some (.inl p5)] [] (SH, dt) (fun r w2 => ∃ dt2 : Nat → Nat → Int, w2 = (SH, dt2) ∧ InvC dt2 ∧ Fr [71, 72, 73, 74] dt dt2 ∧ ((∃ v : Int, r = some (.inl v) ∧ True ∧ True))) := by
  have hF : Fr [71, 72, 73, 74] dt dt := Fr_refl
  refine go_toq PM82 (k := 1) (pc' := 1) (L' := [some (.inr (.inr (some 0))), some (.inl p1), some (.inl p2), some (.inl p3), some (.inl p4), some (.inl p5)]) (st' := [.inl p1]) (w' := (SH, dt)) rfl ?_
  refine go_callq PM82 PM103 (Q' := _) rfl rfl rfl rfl (sp_X5_isLaw L xs sio (d + 3) dt hI  p1 (by first | exact h_p1 | exact bnd h_p1 (by decide) (by decide) | exact ⟨by fail, by fail⟩) ) ?_
  rintro _ _ ⟨rfl, h1⟩
  refine ⟨rfl, ?_⟩
  rcases h1 with ⟨rfl, h1⟩ | ⟨rfl, h1⟩
  · skip
    refine go_toq PM82 (k := 5) (pc' := 12) (L' := [some (.inr (.inr (some 0))), some (.inl p1), some (.inl p2), some (.inl p3), some (.inl p4), some (.inl p5)]) (st' := [.inl p4, .inl p3, .inl p2, .inr (.inr (some 0))]) (w' := (SH, dt)) rfl ?_
    have r2 : 0 ≤ dt 10 3 ∧ dt 10 3 ≤ 40 := InvC_get hI 10 3 rfl rfl
    have r3 : 0 ≤ dt 7 3 ∧ dt 7 3 ≤ 12 := InvC_get hI 7 3 rfl rfl
    refine go_callq PM82 PM108 (Q' := _) rfl rfl rfl rfl (sp_X5_canAsk L xs sio (d + 3) dt hI  p2 (by first | exact h_p2 | exact bnd h_p2 (by decide) (by decide) | exact ⟨by fail, by fail⟩) p3 (by first | exact h_p3 | exact bnd h_p3 (by decide) (by decide) | exact ⟨by fail, by fail⟩) p4 (by first | exact h_p4 | exact bnd h_p4 (by decide) (by decide) | exact ⟨by fail, by fail⟩) ) ?_
    rintro _ _ ⟨rfl, h4⟩
    refine ⟨rfl, ?_⟩
    rcases h4 with ⟨rfl, h4⟩ | ⟨rfl, h4⟩
    · skip
      refine go_toq PM82 (k := 2) (pc' := 20) (L' := [some (.inr (.inr (some 0))), some (.inl p1), some (.inl p2), some (.inl p3), some (.inl p4), some (.inl p5)]) (st' := [.inl p5]) (w' := (SH, dt)) rfl ?_
      refine go_callq PM82 PM107 (Q' := _) rfl rfl rfl rfl (sp_X5_isAnswer L xs sio (d + 3) dt hI  p5 (by first | exact h_p5 | exact bnd h_p5 (by decide) (by decide) | exact ⟨by fail, by fail⟩) ) ?_
      rintro _ _ ⟨rfl, h5⟩
      refine ⟨rfl, ?_⟩
      rcases h5 with ⟨rfl, h5⟩ | ⟨rfl, h5⟩
      · skip
        refine go_toq PM82 (k := 6) (pc' := 34) (L' := [some (.inr (.inr (some 0))), some (.inl p1), some (.inl p2), some (.inl p3), some (.inl p4), some (.inl p5)]) (st' := [.inl p4, .inl p3, .inl p2, .inl p1, .inr (.inr (some 0))]) (w' := (SH, dt)) rfl ?_
        refine go_callq PM82 PM118 (Q' := _) rfl rfl rfl rfl (sp_X5_weigh L xs sio (d + 0) dt hI  p1 (by first | exact h_p1 | exact bnd h_p1 (by decide) (by decide) | exact ⟨by fail, by fail⟩) p2 (by first | exact h_p2 | exact bnd h_p2 (by decide) (by decide) | exact ⟨by fail, by fail⟩) p3 (by first | exact h_p3 | exact bnd h_p3 (by decide) (by decide) | exact ⟨by fail, by fail⟩) p4 (by first | exact h_p4 | exact bnd h_p4 (by decide) (by decide) | exact ⟨by fail, by fail⟩) ) ?_
        rintro _ _ ⟨dt7, rfl, hI8, hF9, h6⟩
        refine ⟨rfl, ?_⟩
        have hF10 : Fr [71, 72, 73, 74] dt dt7 := Fr_tr hF hF9 (by decide)
        rcases h6 with ⟨rfl, h6⟩
        refine go_toq PM82 (k := 3) (pc' := 41) (L' := [some (.inr (.inr (some 0))), some (.inl p1), some (.inl p2), some (.inl p3), some (.inl p4), some (.inl p5)]) (st' := [.inl p5, .inl p3, .inr (.inr (some 0))]) (w' := (SH, dt7)) rfl ?_
        refine go_callq PM82 PM119 (Q' := _) rfl rfl rfl rfl (sp_X5_weighedChance L xs sio (d + 2) dt7 hI8  p3 (by first | exact h_p3 | exact bnd h_p3 (by decide) (by decide) | exact ⟨by fail, by fail⟩) p5 (by first | exact h_p5 | exact bnd h_p5 (by decide) (by decide) | exact ⟨by fail, by fail⟩) ) ?_
        rintro _ _ ⟨rfl, h11⟩
        refine ⟨rfl, ?_⟩
        rcases h11 with ⟨v_h11, rfl, h11r, h11⟩
        refine go_retq PM82 (k := 0) (r := some (.inl v_h11)) (w1 := (SH, dt7)) rfl ?_
        exact ⟨dt7, rfl, hI8, hF10, ⟨_, rfl, trivial, trivial⟩⟩
      · skip
        refine go_retq PM82 (k := 2) (r := some (.inl (-1))) (w1 := (SH, dt)) rfl ?_
        exact ⟨dt, rfl, hI, hF, ⟨_, rfl, trivial, trivial⟩⟩
    · skip
      refine go_retq PM82 (k := 2) (r := some (.inl (-1))) (w1 := (SH, dt)) rfl ?_
      exact ⟨dt, rfl, hI, hF, ⟨_, rfl, trivial, trivial⟩⟩
  · skip
    refine go_retq PM82 (k := 2) (r := some (.inl (-1))) (w1 := (SH, dt)) rfl ?_
    exact ⟨dt, rfl, hI, hF, ⟨_, rfl, trivial, trivial⟩⟩
theorem sp_X5_fewest (L : Nat) (xs : Nat → Int32) (sio : Option Nat) (d : Nat) (dt : Nat → Nat → Int) (hI : InvC dt)  (p1 : Int) (h_p1 : (-2147483648) ≤ p1 ∧ p1 ≤ 2147483647)  : GO (am_XX L xs sio) (d + 4) 84 0 [some (.inr (.inr (some 0))), some (.inl p1), none, none, none, none] [] (SH, dt) (fun r w2 => ∃ dt2 : Nat → Nat → Int, w2 = (SH, dt2) ∧ InvC dt2 ∧ Fr [76] dt dt2 ∧ ((∃ v : Int, r = some (.inl v) ∧ ((-1) ≤ v ∧ v ≤ 2147483647) ∧ True))) := by
  have hF : Fr [76] dt dt := Fr_refl
  refine go_toq PM84 (k := 3) (pc' := 5) (L' := [some (.inr (.inr (some 0))), some (.inl p1), none, none, none, none]) (st' := [.inl 255, .inl 1, .inl p1]) (w' := (SH, dt)) rfl ?_
  refine go_callq PM84 PM100 (Q' := _) rfl rfl rfl rfl (sp_X5_within L xs sio (d + 3) dt hI  p1 (by first | exact h_p1 | exact bnd h_p1 (by decide) (by decide) | exact ⟨by fail, by fail⟩) 1 ⟨by decide, by decide⟩ 255 ⟨by decide, by decide⟩ ) ?_
  rintro _ _ ⟨rfl, h1⟩
  refine ⟨rfl, ?_⟩
  rcases h1 with ⟨rfl, h1⟩ | ⟨rfl, h1⟩
  · skip
    refine go_toq PM84 (k := 3) (pc' := 15) (L' := [some (.inr (.inr (some 0))), some (.inl p1), none, none, none, none]) (st' := [.inl p1, .inr (.inr (some 0))]) (w' := (SH, dt)) rfl ?_
    refine go_callq PM84 PM121 (Q' := _) rfl rfl rfl rfl (sp_X5_listCouples L xs sio (d + 0) dt hI  p1 (by first | exact h_p1 | exact bnd h_p1 (by decide) (by decide) | exact ⟨by fail, by fail⟩) ) ?_
    rintro _ _ ⟨dt3, rfl, hI4, hF5, h2⟩
    refine ⟨rfl, ?_⟩
    have hF6 : Fr [76] dt dt3 := Fr_tr hF hF5 (by decide)
    rcases h2 with ⟨v_h2, rfl, h2r, h2⟩
    refine go_toq PM84 (k := 5) (pc' := 24) (L' := [some (.inr (.inr (some 0))), some (.inl p1), some (.inl v_h2), some (.inl (-1)), some (.inl 0), none]) (st' := []) (w' := (SH, dt3)) rfl ?_
    have loop493 : ∀ (k_ : Nat) (l24_3 : Int) (l24_4 : Int) (i491 : (-1) ≤ l24_3 ∧ l24_3 ≤ 1073741824) (i492 : 0 ≤ l24_4 ∧ l24_4 ≤ 1073741824), (1073741825 - l24_4).toNat < k_ → GO (am_XX L xs sio) (d + 4) 84 24 [some (.inr (.inr (some 0))), none, some (.inl v_h2), some (.inl l24_3), some (.inl l24_4), none] [] (SH, dt3) (fun r w2 => ∃ dt2 : Nat → Nat → Int, w2 = (SH, dt2) ∧ InvC dt2 ∧ Fr [76] dt dt2 ∧ ((∃ v : Int, r = some (.inl v) ∧ ((-1) ≤ v ∧ v ≤ 2147483647) ∧ True))) := by
      intro k_
      induction k_ with
      | zero => intro l24_3 l24_4 i491 i492 hm; exact absurd hm (Nat.not_lt_zero _)
      | succ k_ ih_loop493 =>
        intro l24_3 l24_4 i491 i492 hm
        have r494 : 0 ≤ dt3 7 3 ∧ dt3 7 3 ≤ 12 := InvC_get hI4 7 3 rfl rfl
        have r495 : 1 ≤ am_shl 1 (dt3 7 3) ∧ am_shl 1 (dt3 7 3) ≤ 1073741824 := shl1_R ⟨by omega, by omega⟩
        refine go_ifq PM84 (k := 7) (p1 := 89) (p2 := 41) (L' := [some (.inr (.inr (some 0))), none, some (.inl v_h2), some (.inl l24_3), some (.inl l24_4), none]) (st' := []) (w' := (SH, dt3)) rfl (c_ge (a := l24_4) (b := am_shl 1 (dt3 7 3)) (by first | exact bnd i492 (by decide) (by decide) | exact ⟨by fail, by fail⟩) (by first | exact bnd r495 (by decide) (by decide) | exact ⟨by fail, by fail⟩)) (fun c504 => ?_) (fun c504 => ?_)
        · skip
          refine go_retq PM84 (k := 1) (r := some (.inl l24_3)) (w1 := (SH, dt3)) rfl ?_
          exact ⟨dt3, rfl, hI4, hF6, ⟨_, rfl, (by first | exact bnd i491 (by decide) (by decide) | exact ⟨by fail, by fail⟩), trivial⟩⟩
        · skip
          have j509 :  GO (am_XX L xs sio) (d + 4) 84 63 [some (.inr (.inr (some 0))), none, some (.inl v_h2), some (.inl l24_3), some (.inl l24_4), none] [.inl 1] (SH, dt3) (fun r w2 => ∃ dt2 : Nat → Nat → Int, w2 = (SH, dt2) ∧ InvC dt2 ∧ Fr [76] dt dt2 ∧ ((∃ v : Int, r = some (.inl v) ∧ ((-1) ≤ v ∧ v ≤ 2147483647) ∧ True))) := by
            skip
            have j511 : ∀ (j511_a3 : Int) (i512 : (-1) ≤ j511_a3 ∧ j511_a3 ≤ 1073741824), GO (am_XX L xs sio) (d + 4) 84 83 [some (.inr (.inr (some 0))), none, some (.inl v_h2), some (.inl j511_a3), some (.inl l24_4), none] [] (SH, dt3) (fun r w2 => ∃ dt2 : Nat → Nat → Int, w2 = (SH, dt2) ∧ InvC dt2 ∧ Fr [76] dt dt2 ∧ ((∃ v : Int, r = some (.inl v) ∧ ((-1) ≤ v ∧ v ≤ 2147483647) ∧ True))) := by
              intro j511_a3 i512
              refine go_toq PM84 (k := 2) (pc' := 24) (L' := [some (.inr (.inr (some 0))), none, some (.inl v_h2), some (.inl j511_a3), some (.inl (l24_4 + 1)), none]) (st' := []) (w' := (SH, dt3)) rfl ?_
              exact GO.le (ih_loop493 j511_a3 (l24_4 + 1) (by first | exact bnd i512 (by decide) (by decide) | fail) (by first | exact bndp i492 (by decide) (by decide) | exact bnde i492 c504 (by decide) (by decide) | omega) (by omega)) ⟨.inl rfl, .inl rfl, .inl rfl, .inl rfl, .inl rfl, .inl rfl, trivial⟩
            refine go_toq PM84 (k := 6) (pc' := 74) (L' := [some (.inr (.inr (some 0))), none, some (.inl v_h2), some (.inl l24_3), some (.inl l24_4), some (.inl 1)]) (st' := [.inl v_h2, .inl l24_4, .inr (.inr (some 0))]) (w' := (SH, dt3)) rfl ?_
            refine go_callq PM84 PM122 (Q' := _) rfl rfl rfl rfl (sp_X5_partsAll L xs sio (d + 3) dt3 hI4  l24_4 (by first | exact bnd i492 (by decide) (by decide) | exact bndd i492 c504 (by decide) (by decide) | exact ⟨by fail, by fail⟩) v_h2 (by first | exact bnd h2r (by decide) (by decide) | exact ⟨by fail, by fail⟩) ) ?_
            rintro _ _ ⟨rfl, h513⟩
            refine ⟨rfl, ?_⟩
            rcases h513 with ⟨rfl, h513⟩ | ⟨rfl, h513⟩
            · skip
              refine go_toq PM84 (k := 3) (pc' := 83) (L' := [some (.inr (.inr (some 0))), none, some (.inl v_h2), some (.inl l24_4), some (.inl l24_4), some (.inl 1)]) (st' := []) (w' := (SH, dt3)) rfl ?_
              exact GO.le (j511 l24_4 (by first | exact bnd i492 (by decide) (by decide) | fail)) ⟨.inl rfl, .inl rfl, .inl rfl, .inl rfl, .inl rfl, .inr ⟨rfl, trivial⟩, trivial⟩
            · skip
              refine go_toq PM84 (k := 1) (pc' := 83) (L' := [some (.inr (.inr (some 0))), none, some (.inl v_h2), some (.inl l24_3), some (.inl l24_4), some (.inl 1)]) (st' := []) (w' := (SH, dt3)) rfl ?_
              exact GO.le (j511 l24_3 (by first | exact bnd i491 (by decide) (by decide) | fail)) ⟨.inl rfl, .inl rfl, .inl rfl, .inl rfl, .inl rfl, .inr ⟨rfl, trivial⟩, trivial⟩
          refine go_ifq PM84 (k := 2) (p1 := 58) (p2 := 46) (L' := [some (.inr (.inr (some 0))), none, some (.inl v_h2), some (.inl l24_3), some (.inl l24_4), none]) (st' := []) (w' := (SH, dt3)) rfl (c_eq (a := l24_3) (b := (-1)) (by first | exact bnd i491 (by decide) (by decide) | exact ⟨by fail, by fail⟩) ⟨by decide, by decide⟩) (fun c514 => ?_) (fun c514 => ?_)
          · skip
            refine go_toq PM84 (k := 2) (pc' := 63) (L' := [some (.inr (.inr (some 0))), none, some (.inl v_h2), some (.inl l24_3), some (.inl l24_4), none]) (st' := [.inl 1]) (w' := (SH, dt3)) rfl ?_
            exact GO.le (j509 ) ⟨.inl rfl, .inl rfl, .inl rfl, .inl rfl, .inl rfl, .inl rfl, trivial⟩
          · skip
            replace c514 := hid c514
            refine go_toq PM84 (k := 1) (pc' := 48) (L' := [some (.inr (.inr (some 0))), none, some (.inl v_h2), some (.inl l24_3), some (.inl l24_4), none]) (st' := [.inl l24_4]) (w' := (SH, dt3)) rfl ?_
            refine go_callq PM84 PM262 (Q' := _) rfl rfl rfl rfl (sp_J6_bitCount_0f7a4 L xs sio (d + 3) dt3 hI4  l24_4 (by first | exact bnd i492 (by decide) (by decide) | exact bndd i492 c504 (by decide) (by decide) | exact ⟨by fail, by fail⟩) ) ?_
            rintro _ _ ⟨rfl, h515⟩
            refine ⟨rfl, ?_⟩
            rcases h515 with ⟨v_h515, rfl, h515r, h515⟩
            refine go_toq PM84 (k := 1) (pc' := 52) (L' := [some (.inr (.inr (some 0))), none, some (.inl v_h2), some (.inl l24_3), some (.inl l24_4), none]) (st' := [.inl l24_3, .inl v_h515]) (w' := (SH, dt3)) rfl ?_
            refine go_callq PM84 PM262 (Q' := _) rfl rfl rfl rfl (sp_J6_bitCount_0f7a4 L xs sio (d + 3) dt3 hI4  l24_3 (by first | exact bnd i491 (by decide) (by decide) | exact ⟨by fail, by fail⟩) ) ?_
            rintro _ _ ⟨rfl, h516⟩
            refine ⟨rfl, ?_⟩
            rcases h516 with ⟨v_h516, rfl, h516r, h516⟩
            refine go_ifq PM84 (k := 0) (p1 := 62) (p2 := 58) (L' := [some (.inr (.inr (some 0))), none, some (.inl v_h2), some (.inl l24_3), some (.inl l24_4), none]) (st' := []) (w' := (SH, dt3)) rfl (c_ge (a := v_h515) (b := v_h516) (by first | exact bnd h515r (by decide) (by decide) | exact ⟨by fail, by fail⟩) (by first | exact bnd h516r (by decide) (by decide) | exact ⟨by fail, by fail⟩)) (fun c517 => ?_) (fun c517 => ?_)
            · skip
              refine go_toq PM84 (k := 6) (pc' := 24) (L' := [some (.inr (.inr (some 0))), none, some (.inl v_h2), some (.inl l24_3), some (.inl (l24_4 + 1)), some (.inl 0)]) (st' := []) (w' := (SH, dt3)) rfl ?_
              exact GO.le (ih_loop493 l24_3 (l24_4 + 1) (by first | exact bnd i491 (by decide) (by decide) | fail) (by first | exact bndp i492 (by decide) (by decide) | exact bnde i492 c504 (by decide) (by decide) | omega) (by omega)) ⟨.inl rfl, .inl rfl, .inl rfl, .inl rfl, .inl rfl, .inr ⟨rfl, trivial⟩, trivial⟩
            · skip
              refine go_toq PM84 (k := 2) (pc' := 63) (L' := [some (.inr (.inr (some 0))), none, some (.inl v_h2), some (.inl l24_3), some (.inl l24_4), none]) (st' := [.inl 1]) (w' := (SH, dt3)) rfl ?_
              exact GO.le (j509 ) ⟨.inl rfl, .inl rfl, .inl rfl, .inl rfl, .inl rfl, .inl rfl, trivial⟩
    exact GO.le (loop493 _ (-1) 0 ⟨by decide, by decide⟩ ⟨by decide, by decide⟩ (Nat.lt_succ_self _)) ⟨.inl rfl, .inr ⟨rfl, trivial⟩, .inl rfl, .inl rfl, .inl rfl, .inl rfl, trivial⟩
  · skip
    refine go_retq PM84 (k := 2) (r := some (.inl (-1))) (w1 := (SH, dt)) rfl ?_
    exact ⟨dt, rfl, hI, hF, ⟨_, rfl, ⟨by decide, by decide⟩, trivial⟩⟩
theorem sp_X5_odds (L : Nat) (xs : Nat → Int32) (sio : Option Nat) (d : Nat) (dt : Nat → Nat → Int) (hI : InvC dt)  (p1 : Int) (h_p1 : (-2147483648) ≤ p1 ∧ p1 ≤ 2147483647) (p2 : Int) (h_p2 : (-2147483648) ≤ p2 ∧ p2 ≤ 2147483647)  : GO (am_XX L xs sio) (d + 4) 86 0 [some (.inr (.inr (some 0))), some (.inl p1), some (.inl p2)] [] (SH, dt) (fun r w2 => ∃ dt2 : Nat → Nat → Int, w2 = (SH, dt2) ∧ InvC dt2 ∧ Fr [75] dt dt2 ∧ ((∃ v : Int, r = some (.inl v) ∧ True ∧ True))) := by
  have hF : Fr [75] dt dt := Fr_refl
  refine go_toq PM86 (k := 4) (pc' := 8) (L' := [some (.inr (.inr (some 0))), some (.inl p1), some (.inl p2)]) (st' := [.inl p1, .inr (.inr (some 10))]) (w' := (SH, dt)) rfl ?_
  have r1 : 0 ≤ dt 10 3 ∧ dt 10 3 ≤ 40 := InvC_get hI 10 3 rfl rfl
  refine go_callq PM86 PM37 (Q' := _) rfl rfl rfl rfl (sp_X2_has_10 L xs sio (d + 3) dt hI  p1 (by first | exact h_p1 | exact bnd h_p1 (by decide) (by decide) | exact ⟨by fail, by fail⟩) ) ?_
  rintro _ _ ⟨rfl, h2⟩
  refine ⟨rfl, ?_⟩
  rcases h2 with ⟨rfl, h2⟩ | ⟨rfl, h2⟩
  · skip
    refine go_toq PM86 (k := 4) (pc' := 18) (L' := [some (.inr (.inr (some 0))), some (.inl p1), some (.inl p2)]) (st' := [.inl 8, .inl 0, .inl p2]) (w' := (SH, dt)) rfl ?_
    refine go_callq PM86 PM100 (Q' := _) rfl rfl rfl rfl (sp_X5_within L xs sio (d + 3) dt hI  p2 (by first | exact h_p2 | exact bnd h_p2 (by decide) (by decide) | exact ⟨by fail, by fail⟩) 0 ⟨by decide, by decide⟩ 8 ⟨by decide, by decide⟩ ) ?_
    rintro _ _ ⟨rfl, h3⟩
    refine ⟨rfl, ?_⟩
    rcases h3 with ⟨rfl, h3⟩ | ⟨rfl, h3⟩
    · skip
      refine go_toq PM86 (k := 3) (pc' := 28) (L' := [some (.inr (.inr (some 0))), some (.inl p1), some (.inl p2)]) (st' := [.inl p1, .inr (.inr (some 0))]) (w' := (SH, dt)) rfl ?_
      refine go_callq PM86 PM126 (Q' := _) rfl rfl rfl rfl (sp_X5_countAgreed L xs sio (d + 0) dt hI  p1 (by first | exact h_p1 | exact bnd h_p1 (by decide) (by decide) | exact ⟨by fail, by fail⟩) ) ?_
      rintro _ _ ⟨dt5, rfl, hI6, hF7, h4⟩
      refine ⟨rfl, ?_⟩
      have hF8 : Fr [75] dt dt5 := Fr_tr hF hF7 (by decide)
      rcases h4 with ⟨rfl, h4⟩
      have j12 : ∀ (j12_s0 : Int), GO (am_XX L xs sio) (d + 4) 86 49 [some (.inr (.inr (some 0))), none, none] [.inl j12_s0] (SH, dt5) (fun r w2 => ∃ dt2 : Nat → Nat → Int, w2 = (SH, dt2) ∧ InvC dt2 ∧ Fr [75] dt dt2 ∧ ((∃ v : Int, r = some (.inl v) ∧ True ∧ True))) := by
        intro j12_s0
        refine go_retq PM86 (k := 0) (r := some (.inl j12_s0)) (w1 := (SH, dt5)) rfl ?_
        exact ⟨dt5, rfl, hI6, hF8, ⟨_, rfl, trivial, trivial⟩⟩
      refine go_ifq PM86 (k := 2) (p1 := 44) (p2 := 37) (L' := [some (.inr (.inr (some 0))), some (.inl p1), some (.inl p2)]) (st' := []) (w' := (SH, dt5)) rfl (c_ne (a := p2) (b := 8) (by first | exact bnd h_p2 (by decide) (by decide) | exact ⟨by fail, by fail⟩) ⟨by decide, by decide⟩) (fun c13 => ?_) (fun c13 => ?_)
      · skip
        replace c13 := hid c13
        refine go_toq PM86 (k := 2) (pc' := 46) (L' := [some (.inr (.inr (some 0))), some (.inl p1), some (.inl p2)]) (st' := [.inl p2, .inr (.inr (some 0))]) (w' := (SH, dt5)) rfl ?_
        refine go_callq PM86 PM127 (Q' := _) rfl rfl rfl rfl (sp_X5_oddsOf L xs sio (d + 1) dt5 hI6  p2 (by first | exact h_p2 | exact bnd h_p2 (by decide) (by decide) | exact ⟨by fail, by fail⟩) ) ?_
        rintro _ _ ⟨rfl, h14⟩
        refine ⟨rfl, ?_⟩
        rcases h14 with ⟨v_h14, rfl, h14r, h14⟩
        exact GO.le (j12 v_h14) ⟨.inl rfl, .inr ⟨rfl, trivial⟩, .inr ⟨rfl, trivial⟩, trivial⟩
      · skip
        refine go_toq PM86 (k := 1) (pc' := 38) (L' := [some (.inr (.inr (some 0))), some (.inl p1), some (.inl p2)]) (st' := [.inr (.inr (some 0))]) (w' := (SH, dt5)) rfl ?_
        refine go_callq PM86 PM129 (Q' := _) rfl rfl rfl rfl (sp_X5_mostAgreed L xs sio (d + 3) dt5 hI6   ) ?_
        rintro _ _ ⟨rfl, h15⟩
        refine ⟨rfl, ?_⟩
        rcases h15 with ⟨v_h15, rfl, h15r, h15⟩
        refine go_toq PM86 (k := 1) (pc' := 49) (L' := [some (.inr (.inr (some 0))), some (.inl p1), some (.inl p2)]) (st' := [.inl v_h15]) (w' := (SH, dt5)) rfl ?_
        exact GO.le (j12 v_h15) ⟨.inl rfl, .inr ⟨rfl, trivial⟩, .inr ⟨rfl, trivial⟩, trivial⟩
    · skip
      refine go_retq PM86 (k := 2) (r := some (.inl (-1))) (w1 := (SH, dt)) rfl ?_
      exact ⟨dt, rfl, hI, hF, ⟨_, rfl, trivial, trivial⟩⟩
  · skip
    refine go_retq PM86 (k := 2) (r := some (.inl (-1))) (w1 := (SH, dt)) rfl ?_
    exact ⟨dt, rfl, hI, hF, ⟨_, rfl, trivial, trivial⟩⟩
theorem sp_X5_need (L : Nat) (xs : Nat → Int32) (sio : Option Nat) (d : Nat) (dt : Nat → Nat → Int) (hI : InvC dt)  (p1 : Int) (h_p1 : (-2147483648) ≤ p1 ∧ p1 ≤ 2147483647) (p2 : Int) (h_p2 : (-2147483648) ≤ p2 ∧ p2 ≤ 2147483647)  : GO (am_XX L xs sio) (d + 3) 87 0 [some (.inr (.inr (some 0))), some (.inl p1), some (.inl p2), none] [] (SH, dt) (fun r w2 => ∃ dt2 : Nat → Nat → Int, w2 = (SH, dt2) ∧ InvC dt2 ∧ Fr [75] dt dt2 ∧ ((∃ v : Int, r = some (.inl v) ∧ ((-1) ≤ v ∧ v ≤ 12) ∧ True))) := by
  have hF : Fr [75] dt dt := Fr_refl
  refine go_toq PM87 (k := 1) (pc' := 1) (L' := [some (.inr (.inr (some 0))), some (.inl p1), some (.inl p2), none]) (st' := [.inl p1]) (w' := (SH, dt)) rfl ?_
  refine go_callq PM87 PM106 (Q' := _) rfl rfl rfl rfl (sp_X5_isRule L xs sio (d + 1) dt hI  p1 (by first | exact h_p1 | exact bnd h_p1 (by decide) (by decide) | exact ⟨by fail, by fail⟩) ) ?_
  rintro _ _ ⟨rfl, h1⟩
  refine ⟨rfl, ?_⟩
  rcases h1 with ⟨rfl, h1⟩ | ⟨rfl, h1⟩
  · skip
    refine go_toq PM87 (k := 4) (pc' := 12) (L' := [some (.inr (.inr (some 0))), some (.inl p1), some (.inl p2), none]) (st' := [.inl 1000, .inl 1, .inl p2]) (w' := (SH, dt)) rfl ?_
    refine go_callq PM87 PM100 (Q' := _) rfl rfl rfl rfl (sp_X5_within L xs sio (d + 2) dt hI  p2 (by first | exact h_p2 | exact bnd h_p2 (by decide) (by decide) | exact ⟨by fail, by fail⟩) 1 ⟨by decide, by decide⟩ 1000 ⟨by decide, by decide⟩ ) ?_
    rintro _ _ ⟨rfl, h2⟩
    refine ⟨rfl, ?_⟩
    rcases h2 with ⟨rfl, h2⟩ | ⟨rfl, h2⟩
    · skip
      refine go_toq PM87 (k := 4) (pc' := 25) (L' := [some (.inr (.inr (some 0))), some (.inl p1), some (.inl p2), none]) (st' := [.inl 0, .inr (.inr (some 75))]) (w' := (SH, dt)) rfl ?_
      refine go_callq PM87 PM261 (Q' := _) rfl rfl rfl rfl (sp_J7_fill_53178_75 L xs sio (d + 2) dt hI  0 ⟨by decide, by decide⟩ ) ?_
      rintro _ _ ⟨dt4, rfl, hI5, hF6, h3⟩
      refine ⟨rfl, ?_⟩
      have hF7 : Fr [75] dt dt4 := Fr_tr hF hF6 (by decide)
      rcases h3 with ⟨rfl, h3⟩
      refine go_toq PM87 (k := 2) (pc' := 30) (L' := [some (.inr (.inr (some 0))), some (.inl p1), some (.inl p2), none]) (st' := [.inl p1, .inr (.inr (some 0))]) (w' := (SH, dt4)) rfl ?_
      refine go_callq PM87 PM127 (Q' := _) rfl rfl rfl rfl (sp_X5_oddsOf L xs sio (d + 0) dt4 hI5  p1 (by first | exact h_p1 | exact bnd h_p1 (by decide) (by decide) | exact ⟨by fail, by fail⟩) ) ?_
      rintro _ _ ⟨rfl, h8⟩
      refine ⟨rfl, ?_⟩
      rcases h8 with ⟨v_h8, rfl, h8r, h8⟩
      have r10 := wr_RR v_h8
      have r11 := wr_RR p2
      refine go_ifq PM87 (k := 1) (p1 := 39) (p2 := 37) (L' := [some (.inr (.inr (some 0))), some (.inl p1), some (.inl p2), none]) (st' := []) (w' := (SH, dt4)) rfl (u_lt (a := wr v_h8) (b := wr p2)) (fun c9 => ?_) (fun c9 => ?_)
      · skip
        refine go_toq PM87 (k := 2) (pc' := 41) (L' := [some (.inr (.inr (some 0))), some (.inl p1), some (.inl p2), some (.inl 0)]) (st' := []) (w' := (SH, dt4)) rfl ?_
        have loop81 : ∀ (k_ : Nat) (l41_3 : Int) (dt77 : Nat → Nat → Int) (hI78 : InvC dt77) (hF79 : Fr [75] dt dt77) (i80 : 0 ≤ l41_3 ∧ l41_3 ≤ 12), (13 - l41_3).toNat < k_ → GO (am_XX L xs sio) (d + 3) 87 41 [some (.inr (.inr (some 0))), some (.inl p1), some (.inl p2), some (.inl l41_3)] [] (SH, dt77) (fun r w2 => ∃ dt2 : Nat → Nat → Int, w2 = (SH, dt2) ∧ InvC dt2 ∧ Fr [75] dt dt2 ∧ ((∃ v : Int, r = some (.inl v) ∧ ((-1) ≤ v ∧ v ≤ 12) ∧ True))) := by
          intro k_
          induction k_ with
          | zero => intro l41_3 dt77 hI78 hF79 i80 hm; exact absurd hm (Nat.not_lt_zero _)
          | succ k_ ih_loop81 =>
            intro l41_3 dt77 hI78 hF79 i80 hm
            have r82 : 0 ≤ dt77 7 3 ∧ dt77 7 3 ≤ 12 := InvC_get hI78 7 3 rfl rfl
            refine go_ifq PM87 (k := 5) (p1 := 88) (p2 := 55) (L' := [some (.inr (.inr (some 0))), some (.inl p1), some (.inl p2), some (.inl l41_3)]) (st' := []) (w' := (SH, dt77)) rfl (c_ge (a := l41_3) (b := dt77 7 3) (by first | exact bnd i80 (by decide) (by decide) | exact ⟨by fail, by fail⟩) (by first | exact bnd r82 (by decide) (by decide) | exact ⟨by fail, by fail⟩)) (fun c83 => ?_) (fun c83 => ?_)
            · skip
              refine go_retq PM87 (k := 1) (r := some (.inl (-1))) (w1 := (SH, dt77)) rfl ?_
              exact ⟨dt77, rfl, hI78, hF79, ⟨_, rfl, ⟨by decide, by decide⟩, trivial⟩⟩
            · skip
              refine go_toq PM87 (k := 6) (pc' := 63) (L' := [some (.inr (.inr (some 0))), some (.inl p1), some (.inl p2), some (.inl l41_3)]) (st' := [.inl p1, .inl l41_3, .inr (.inr (some 1)), .inl l41_3, .inr (.inr (some 0))]) (w' := (SH, dt77)) rfl ?_
              refine go_callq PM87 PM1 (Q' := _) rfl rfl rfl rfl (sp_X0_saidOf L xs sio (d + 1) dt77 hI78  l41_3 (by first | exact bnd i80 (by decide) (by decide) | exact bndd i80 c83 (by decide) (by decide) | exact ⟨by fail, by fail⟩) p1 (by first | exact h_p1 | exact bnd h_p1 (by decide) (by decide) | exact ⟨by fail, by fail⟩) ) ?_
              rintro _ _ ⟨rfl, h84⟩
              refine ⟨rfl, ?_⟩
              rcases h84 with ⟨v_h84, rfl, h84r, h84⟩
              refine go_callq PM87 PM125 (Q' := _) rfl rfl rfl rfl (sp_X5_agree L xs sio (d + 0) dt77 hI78  l41_3 (by first | exact bnd i80 (by decide) (by decide) | exact bndd i80 c83 (by decide) (by decide) | exact ⟨by fail, by fail⟩) v_h84 (by first | exact bnd h84r (by decide) (by decide) | exact ⟨by fail, by fail⟩) ) ?_
              rintro _ _ ⟨dt86, rfl, hI87, hF88, h85⟩
              refine ⟨rfl, ?_⟩
              have hF89 : Fr [75] dt dt86 := Fr_tr hF79 hF88 (by decide)
              rcases h85 with ⟨rfl, h85⟩
              refine go_toq PM87 (k := 2) (pc' := 71) (L' := [some (.inr (.inr (some 0))), some (.inl p1), some (.inl p2), some (.inl l41_3)]) (st' := [.inl p1, .inr (.inr (some 0))]) (w' := (SH, dt86)) rfl ?_
              refine go_callq PM87 PM127 (Q' := _) rfl rfl rfl rfl (sp_X5_oddsOf L xs sio (d + 0) dt86 hI87  p1 (by first | exact h_p1 | exact bnd h_p1 (by decide) (by decide) | exact ⟨by fail, by fail⟩) ) ?_
              rintro _ _ ⟨rfl, h90⟩
              refine ⟨rfl, ?_⟩
              rcases h90 with ⟨v_h90, rfl, h90r, h90⟩
              have r92 := wr_RR v_h90
              have r93 := wr_RR p2
              refine go_ifq PM87 (k := 1) (p1 := 82) (p2 := 78) (L' := [some (.inr (.inr (some 0))), some (.inl p1), some (.inl p2), some (.inl l41_3)]) (st' := []) (w' := (SH, dt86)) rfl (u_lt (a := wr v_h90) (b := wr p2)) (fun c91 => ?_) (fun c91 => ?_)
              · skip
                refine go_toq PM87 (k := 2) (pc' := 41) (L' := [some (.inr (.inr (some 0))), some (.inl p1), some (.inl p2), some (.inl (l41_3 + 1))]) (st' := []) (w' := (SH, dt86)) rfl ?_
                exact GO.le (ih_loop81 (l41_3 + 1) dt86 hI87 hF89 (by first | exact bndp i80 (by decide) (by decide) | exact bnde i80 c83 (by decide) (by decide) | omega) (by omega)) ⟨.inl rfl, .inl rfl, .inl rfl, .inl rfl, trivial⟩
              · skip
                refine go_retq PM87 (k := 3) (r := some (.inl (l41_3 + 1))) (w1 := (SH, dt86)) rfl ?_
                exact ⟨dt86, rfl, hI87, hF89, ⟨_, rfl, (by first | exact bndp i80 (by decide) (by decide) | exact ⟨by omega, by omega⟩), trivial⟩⟩
        exact GO.le (loop81 _ 0 dt4 hI5 hF7 ⟨by decide, by decide⟩ (Nat.lt_succ_self _)) ⟨.inl rfl, .inl rfl, .inl rfl, .inl rfl, trivial⟩
      · skip
        refine go_retq PM87 (k := 1) (r := some (.inl 0)) (w1 := (SH, dt4)) rfl ?_
        exact ⟨dt4, rfl, hI5, hF7, ⟨_, rfl, ⟨by decide, by decide⟩, trivial⟩⟩
    · skip
      refine go_retq PM87 (k := 2) (r := some (.inl (-1))) (w1 := (SH, dt)) rfl ?_
      exact ⟨dt, rfl, hI, hF, ⟨_, rfl, ⟨by decide, by decide⟩, trivial⟩⟩
  · skip
    refine go_retq PM87 (k := 2) (r := some (.inl (-1))) (w1 := (SH, dt)) rfl ?_
    exact ⟨dt, rfl, hI, hF, ⟨_, rfl, ⟨by decide, by decide⟩, trivial⟩⟩
theorem sp_X5_pulls (L : Nat) (xs : Nat → Int32) (sio : Option Nat) (d : Nat) (dt : Nat → Nat → Int) (hI : InvC dt)  (p1 : Int) (h_p1 : (-2147483648) ≤ p1 ∧ p1 ≤ 2147483647) (p2 : Int) (h_p2 : (-2147483648) ≤ p2 ∧ p2 ≤ 2147483647)  : GO (am_XX L xs sio) (d + 3) 88 0 [some (.inr (.inr (some 0))), some (.inl p1), some (.inl p2), none, none, none, none, none] [] (SH, dt) (fun r w2 => w2 = (SH, dt) ∧ ((∃ v : Int, r = some (.inl v) ∧ True ∧ True))) := by
  refine go_toq PM88 (k := 3) (pc' := 3) (L' := [some (.inr (.inr (some 0))), some (.inl p1), some (.inl p2), none, none, none, none, none]) (st' := [.inl 3, .inl (-1), .inl p1]) (w' := (SH, dt)) rfl ?_
  refine go_callq PM88 PM100 (Q' := _) rfl rfl rfl rfl (sp_X5_within L xs sio (d + 2) dt hI  p1 (by first | exact h_p1 | exact bnd h_p1 (by decide) (by decide) | exact ⟨by fail, by fail⟩) (-1) ⟨by decide, by decide⟩ 3 ⟨by decide, by decide⟩ ) ?_
  rintro _ _ ⟨rfl, h1⟩
  refine ⟨rfl, ?_⟩
  rcases h1 with ⟨rfl, h1⟩ | ⟨rfl, h1⟩
  · skip
    refine go_toq PM88 (k := 4) (pc' := 12) (L' := [some (.inr (.inr (some 0))), some (.inl p1), some (.inl p2), none, none, none, none, none]) (st' := [.inl 4, .inl 0, .inl p2]) (w' := (SH, dt)) rfl ?_
    refine go_callq PM88 PM100 (Q' := _) rfl rfl rfl rfl (sp_X5_within L xs sio (d + 2) dt hI  p2 (by first | exact h_p2 | exact bnd h_p2 (by decide) (by decide) | exact ⟨by fail, by fail⟩) 0 ⟨by decide, by decide⟩ 4 ⟨by decide, by decide⟩ ) ?_
    rintro _ _ ⟨rfl, h2⟩
    refine ⟨rfl, ?_⟩
    rcases h2 with ⟨rfl, h2⟩ | ⟨rfl, h2⟩
    · skip
      refine go_toq PM88 (k := 7) (pc' := 28) (L' := [some (.inr (.inr (some 0))), some (.inl p1), some (.inl p2), some (.inl 0), some (.inl 0), some (.inl 0), none, none]) (st' := []) (w' := (SH, dt)) rfl ?_
      have loop158 : ∀ (k_ : Nat) (l28_3 : Int) (l28_4 : Int) (l28_5 : Int) (i157 : 0 ≤ l28_5 ∧ l28_5 ≤ 300), (301 - l28_5).toNat < k_ → GO (am_XX L xs sio) (d + 3) 88 28 [some (.inr (.inr (some 0))), some (.inl p1), some (.inl p2), some (.inl l28_3), some (.inl l28_4), some (.inl l28_5), none, none] [] (SH, dt) (fun r w2 => w2 = (SH, dt) ∧ ((∃ v : Int, r = some (.inl v) ∧ True ∧ True))) := by
        intro k_
        induction k_ with
        | zero => intro l28_3 l28_4 l28_5 i157 hm; exact absurd hm (Nat.not_lt_zero _)
        | succ k_ ih_loop158 =>
          intro l28_3 l28_4 l28_5 i157 hm
          have r159 : 0 ≤ dt 12 3 ∧ dt 12 3 ≤ 300 := InvC_get hI 12 3 rfl rfl
          refine go_ifq PM88 (k := 5) (p1 := 147) (p2 := 43) (L' := [some (.inr (.inr (some 0))), some (.inl p1), some (.inl p2), some (.inl l28_3), some (.inl l28_4), some (.inl l28_5), none, none]) (st' := []) (w' := (SH, dt)) rfl (c_ge (a := l28_5) (b := dt 12 3) (by first | exact bnd i157 (by decide) (by decide) | exact ⟨by fail, by fail⟩) (by first | exact bnd r159 (by decide) (by decide) | exact ⟨by fail, by fail⟩)) (fun c172 => ?_) (fun c172 => ?_)
          · skip
            refine go_ifq PM88 (k := 2) (p1 := 163) (p2 := 152) (L' := [some (.inr (.inr (some 0))), some (.inl p1), some (.inl p2), some (.inl l28_3), some (.inl l28_4), some (.inl l28_5), none, none]) (st' := []) (w' := (SH, dt)) rfl (c_ge (a := p2) (b := 2) (by first | exact bnd h_p2 (by decide) (by decide) | exact ⟨by fail, by fail⟩) ⟨by decide, by decide⟩) (fun c173 => ?_) (fun c173 => ?_)
            · skip
              have r175 := wr_RR l28_3
              refine go_ifq PM88 (k := 1) (p1 := 169) (p2 := 167) (L' := [some (.inr (.inr (some 0))), some (.inl p1), some (.inl p2), some (.inl l28_3), some (.inl l28_4), some (.inl l28_5), none, none]) (st' := []) (w' := (SH, dt)) rfl (u_ne (a := wr l28_3) (b := 0)) (fun c174 => ?_) (fun c174 => ?_)
              · skip
                refine go_toq PM88 (k := 4) (pc' := 176) (L' := [some (.inr (.inr (some 0))), some (.inl p1), some (.inl p2), some (.inl l28_3), some (.inl l28_4), some (.inl l28_5), none, none]) (st' := [.inl l28_3, .inl (1000 * l28_4)]) (w' := (SH, dt)) rfl ?_
                refine go_smpq PM88 (L' := [some (.inr (.inr (some 0))), some (.inl p1), some (.inl p2), some (.inl l28_3), some (.inl l28_4), some (.inl l28_5), none, none]) (st' := [.inl ((wr (1000 * l28_4)).tdiv (wr l28_3))]) (w' := (SH, dt)) rfl rfl (s_idiv (by omega)) ?_
                refine go_ifq PM88 (k := 3) (p1 := 188) (p2 := 184) (L' := [some (.inr (.inr (some 0))), some (.inl p1), some (.inl p2), some (.inl l28_3), some (.inl l28_4), some (.inl ((wr (1000 * l28_4)).tdiv (wr l28_3))), none, none]) (st' := []) (w' := (SH, dt)) rfl (c_ne (a := p2) (b := 2) (by first | exact bnd h_p2 (by decide) (by decide) | exact ⟨by fail, by fail⟩) ⟨by decide, by decide⟩) (fun c178 => ?_) (fun c178 => ?_)
                · skip
                  replace c178 := hid c178
                  refine go_toq PM88 (k := 1) (pc' := 189) (L' := [some (.inr (.inr (some 0))), some (.inl p1), some (.inl p2), some (.inl l28_3), some (.inl l28_4), some (.inl ((wr (1000 * l28_4)).tdiv (wr l28_3))), none, none]) (st' := [.inl l28_3]) (w' := (SH, dt)) rfl ?_
                  refine go_callq PM88 PM112 (Q' := _) rfl rfl rfl rfl (sp_X5_thousandByRoot L xs sio (d + 1) dt hI  l28_3 ) ?_
                  rintro _ _ ⟨rfl, h179⟩
                  refine ⟨rfl, ?_⟩
                  rcases h179 with ⟨v_h179, rfl, h179r, h179⟩
                  have j181 : ∀ (j181_s0 : Int), GO (am_XX L xs sio) (d + 3) 88 212 [some (.inr (.inr (some 0))), none, none, none, none, none, none, none] [.inl j181_s0] (SH, dt) (fun r w2 => w2 = (SH, dt) ∧ ((∃ v : Int, r = some (.inl v) ∧ True ∧ True))) := by
                    intro j181_s0
                    refine go_toq PM88 (k := 1) (pc' := 215) (L' := [some (.inr (.inr (some 0))), none, none, none, none, none, none, none]) (st' := [.inl 1000, .inl j181_s0]) (w' := (SH, dt)) rfl ?_
                    refine go_callq PM88 PM101 (Q' := _) rfl rfl rfl rfl (sp_X5_cut_u L xs sio (d + 1) dt hI  j181_s0 1000 ⟨by decide, by decide⟩ ) ?_
                    rintro _ _ ⟨rfl, h182⟩
                    refine ⟨rfl, ?_⟩
                    rcases h182 with ⟨v_h182, rfl, h182r, h182⟩
                    refine go_retq PM88 (k := 0) (r := some (.inl v_h182)) (w1 := (SH, dt)) rfl ?_
                    exact ⟨rfl, ⟨_, rfl, trivial, trivial⟩⟩
                  refine go_ifq PM88 (k := 3) (p1 := 207) (p2 := 199) (L' := [some (.inr (.inr (some 0))), some (.inl p1), some (.inl p2), some (.inl l28_3), some (.inl l28_4), some (.inl ((wr (1000 * l28_4)).tdiv (wr l28_3))), some (.inl v_h179), none]) (st' := []) (w' := (SH, dt)) rfl (c_ne (a := p2) (b := 3) (by first | exact bnd h_p2 (by decide) (by decide) | exact ⟨by fail, by fail⟩) ⟨by decide, by decide⟩) (fun c183 => ?_) (fun c183 => ?_)
                  · skip
                    replace c183 := hid c183
                    refine go_toq PM88 (k := 3) (pc' := 212) (L' := [some (.inr (.inr (some 0))), some (.inl p1), some (.inl p2), some (.inl l28_3), some (.inl l28_4), some (.inl ((wr (1000 * l28_4)).tdiv (wr l28_3))), some (.inl v_h179), none]) (st' := [.inl (((wr (1000 * l28_4)).tdiv (wr l28_3)) + v_h179)]) (w' := (SH, dt)) rfl ?_
                    exact GO.le (j181 (((wr (1000 * l28_4)).tdiv (wr l28_3)) + v_h179)) ⟨.inl rfl, .inr ⟨rfl, trivial⟩, .inr ⟨rfl, trivial⟩, .inr ⟨rfl, trivial⟩, .inr ⟨rfl, trivial⟩, .inr ⟨rfl, trivial⟩, .inr ⟨rfl, trivial⟩, .inl rfl, trivial⟩
                  · skip
                    refine go_toq PM88 (k := 4) (pc' := 212) (L' := [some (.inr (.inr (some 0))), some (.inl p1), some (.inl p2), some (.inl l28_3), some (.inl l28_4), some (.inl ((wr (1000 * l28_4)).tdiv (wr l28_3))), some (.inl v_h179), none]) (st' := [.inl (((wr (1000 * l28_4)).tdiv (wr l28_3)) - v_h179)]) (w' := (SH, dt)) rfl ?_
                    exact GO.le (j181 (((wr (1000 * l28_4)).tdiv (wr l28_3)) - v_h179)) ⟨.inl rfl, .inr ⟨rfl, trivial⟩, .inr ⟨rfl, trivial⟩, .inr ⟨rfl, trivial⟩, .inr ⟨rfl, trivial⟩, .inr ⟨rfl, trivial⟩, .inr ⟨rfl, trivial⟩, .inl rfl, trivial⟩
                · skip
                  refine go_ifq PM88 (k := 5) (p1 := 207) (p2 := 199) (L' := [some (.inr (.inr (some 0))), some (.inl p1), some (.inl p2), some (.inl l28_3), some (.inl l28_4), some (.inl ((wr (1000 * l28_4)).tdiv (wr l28_3))), some (.inl 0), none]) (st' := []) (w' := (SH, dt)) rfl (c_ne (a := p2) (b := 3) (by first | exact bnd h_p2 (by decide) (by decide) | exact ⟨by fail, by fail⟩) ⟨by decide, by decide⟩) (fun c185 => ?_) (fun c185 => ?_)
                  · skip
                    replace c185 := hid c185
                    refine go_toq PM88 (k := 4) (pc' := 215) (L' := [some (.inr (.inr (some 0))), some (.inl p1), some (.inl p2), some (.inl l28_3), some (.inl l28_4), some (.inl ((wr (1000 * l28_4)).tdiv (wr l28_3))), some (.inl 0), none]) (st' := [.inl 1000, .inl (((wr (1000 * l28_4)).tdiv (wr l28_3)) + 0)]) (w' := (SH, dt)) rfl ?_
                    refine go_callq PM88 PM101 (Q' := _) rfl rfl rfl rfl (sp_X5_cut_u L xs sio (d + 1) dt hI  (((wr (1000 * l28_4)).tdiv (wr l28_3)) + 0) 1000 ⟨by decide, by decide⟩ ) ?_
                    rintro _ _ ⟨rfl, h186⟩
                    refine ⟨rfl, ?_⟩
                    rcases h186 with ⟨v_h186, rfl, h186r, h186⟩
                    refine go_retq PM88 (k := 0) (r := some (.inl v_h186)) (w1 := (SH, dt)) rfl ?_
                    exact ⟨rfl, ⟨_, rfl, trivial, trivial⟩⟩
                  · exfalso; omega
              · skip
                refine go_retq PM88 (k := 1) (r := some (.inl (-1))) (w1 := (SH, dt)) rfl ?_
                exact ⟨rfl, ⟨_, rfl, trivial, trivial⟩⟩
            · skip
              have j188 : ∀ (j188_s0 : Int), GO (am_XX L xs sio) (d + 3) 88 162 [some (.inr (.inr (some 0))), none, none, none, none, none, none, none] [.inl j188_s0] (SH, dt) (fun r w2 => w2 = (SH, dt) ∧ ((∃ v : Int, r = some (.inl v) ∧ True ∧ True))) := by
                intro j188_s0
                refine go_retq PM88 (k := 0) (r := some (.inl j188_s0)) (w1 := (SH, dt)) rfl ?_
                exact ⟨rfl, ⟨_, rfl, trivial, trivial⟩⟩
              refine go_ifq PM88 (k := 1) (p1 := 160) (p2 := 156) (L' := [some (.inr (.inr (some 0))), some (.inl p1), some (.inl p2), some (.inl l28_3), some (.inl l28_4), some (.inl l28_5), none, none]) (st' := []) (w' := (SH, dt)) rfl (z_ne (a := p2) (by first | exact bnd h_p2 (by decide) (by decide) | exact bndd h_p2 c173 (by decide) (by decide) | exact ⟨by fail, by fail⟩)) (fun c189 => ?_) (fun c189 => ?_)
              · skip
                replace c189 := hid c189
                refine go_toq PM88 (k := 1) (pc' := 162) (L' := [some (.inr (.inr (some 0))), some (.inl p1), some (.inl p2), some (.inl l28_3), some (.inl l28_4), some (.inl l28_5), none, none]) (st' := [.inl l28_4]) (w' := (SH, dt)) rfl ?_
                exact GO.le (j188 l28_4) ⟨.inl rfl, .inr ⟨rfl, trivial⟩, .inr ⟨rfl, trivial⟩, .inr ⟨rfl, trivial⟩, .inr ⟨rfl, trivial⟩, .inr ⟨rfl, trivial⟩, .inl rfl, .inl rfl, trivial⟩
              · skip
                refine go_toq PM88 (k := 2) (pc' := 162) (L' := [some (.inr (.inr (some 0))), some (.inl p1), some (.inl p2), some (.inl l28_3), some (.inl l28_4), some (.inl l28_5), none, none]) (st' := [.inl l28_3]) (w' := (SH, dt)) rfl ?_
                exact GO.le (j188 l28_3) ⟨.inl rfl, .inr ⟨rfl, trivial⟩, .inr ⟨rfl, trivial⟩, .inr ⟨rfl, trivial⟩, .inr ⟨rfl, trivial⟩, .inr ⟨rfl, trivial⟩, .inl rfl, .inl rfl, trivial⟩
          · skip
            have j193 :  GO (am_XX L xs sio) (d + 3) 88 70 [some (.inr (.inr (some 0))), some (.inl p1), some (.inl p2), some (.inl l28_3), some (.inl l28_4), some (.inl l28_5), none, none] [.inl 1] (SH, dt) (fun r w2 => w2 = (SH, dt) ∧ ((∃ v : Int, r = some (.inl v) ∧ True ∧ True))) := by
              skip
              refine go_toq PM88 (k := 6) (pc' := 82) (L' := [some (.inr (.inr (some 0))), some (.inl p1), some (.inl p2), some (.inl l28_3), some (.inl l28_4), some (.inl l28_5), some (.inl 1), none]) (st' := [.inl 1, .inl l28_5, .inr (.inr (some 12))]) (w' := (SH, dt)) rfl ?_
              refine go_callq PM88 PM39 (Q' := _) rfl rfl rfl rfl (sp_X2_at_12 L xs sio (d + 1) dt hI  l28_5 (by first | exact bnd i157 (by decide) (by decide) | exact bndd i157 c172 (by decide) (by decide) | exact ⟨by fail, by fail⟩) 1 ⟨by decide, by decide⟩ ) ?_
              rintro _ _ ⟨rfl, h194⟩
              refine ⟨rfl, ?_⟩
              rcases h194 with ⟨v_h194, rfl, h194r, h194⟩
              have j199 : ∀ (j199_a3 : Int) (j199_a4 : Int) (i200 : l28_3 + 0 ≤ j199_a3 ∧ j199_a3 ≤ l28_3 + 1) (i201 : l28_4 + 0 ≤ j199_a4 ∧ j199_a4 ≤ l28_4 + 1), GO (am_XX L xs sio) (d + 3) 88 141 [some (.inr (.inr (some 0))), some (.inl p1), some (.inl p2), some (.inl j199_a3), some (.inl j199_a4), some (.inl l28_5), none, none] [] (SH, dt) (fun r w2 => w2 = (SH, dt) ∧ ((∃ v : Int, r = some (.inl v) ∧ True ∧ True))) := by
                intro j199_a3 j199_a4 i200 i201
                refine go_toq PM88 (k := 2) (pc' := 28) (L' := [some (.inr (.inr (some 0))), some (.inl p1), some (.inl p2), some (.inl j199_a3), some (.inl j199_a4), some (.inl (l28_5 + 1)), none, none]) (st' := []) (w' := (SH, dt)) rfl ?_
                exact GO.le (ih_loop158 j199_a3 j199_a4 (l28_5 + 1) (by first | exact bndp i157 (by decide) (by decide) | exact bnde i157 c172 (by decide) (by decide) | omega) (by omega)) ⟨.inl rfl, .inl rfl, .inl rfl, .inl rfl, .inl rfl, .inl rfl, .inl rfl, .inl rfl, trivial⟩
              refine go_toq PM88 (k := 6) (pc' := 96) (L' := [some (.inr (.inr (some 0))), some (.inl p1), some (.inl p2), some (.inl l28_3), some (.inl l28_4), some (.inl l28_5), some (.inl 1), some (.inl v_h194)]) (st' := [.inl 0, .inl v_h194, .inr (.inr (some 0))]) (w' := (SH, dt)) rfl ?_
              refine go_callq PM88 PM117 (Q' := _) rfl rfl rfl rfl (sp_X5_isTelling L xs sio (d + 0) dt hI  v_h194 (by first | exact bnd h194r (by decide) (by decide) | exact ⟨by fail, by fail⟩) 0 ⟨by decide, by decide⟩ ) ?_
              rintro _ _ ⟨rfl, h202⟩
              refine ⟨rfl, ?_⟩
              rcases h202 with ⟨rfl, h202⟩ | ⟨rfl, h202⟩
              · skip
                refine go_toq PM88 (k := 8) (pc' := 117) (L' := [some (.inr (.inr (some 0))), some (.inl p1), some (.inl p2), some (.inl (l28_3 + 1)), some (.inl l28_4), some (.inl l28_5), some (.inl 1), some (.inl v_h194)]) (st' := [.inl 3, .inl l28_5, .inr (.inr (some 12)), .inl l28_4]) (w' := (SH, dt)) rfl ?_
                refine go_callq PM88 PM39 (Q' := _) rfl rfl rfl rfl (sp_X2_at_12 L xs sio (d + 1) dt hI  l28_5 (by first | exact bnd i157 (by decide) (by decide) | exact bndd i157 c172 (by decide) (by decide) | exact ⟨by fail, by fail⟩) 3 ⟨by decide, by decide⟩ ) ?_
                rintro _ _ ⟨rfl, h203⟩
                refine ⟨rfl, ?_⟩
                rcases h203 with ⟨v_h203, rfl, h203r, h203⟩
                refine go_toq PM88 (k := 4) (pc' := 127) (L' := [some (.inr (.inr (some 0))), some (.inl p1), some (.inl p2), some (.inl (l28_3 + 1)), some (.inl l28_4), some (.inl l28_5), some (.inl 1), some (.inl v_h194)]) (st' := [.inl 0, .inl v_h194, .inr (.inr (some 1)), .inl v_h203, .inl l28_4]) (w' := (SH, dt)) rfl ?_
                refine go_callq PM88 PM1 (Q' := _) rfl rfl rfl rfl (sp_X0_saidOf L xs sio (d + 1) dt hI  v_h194 (by first | exact bnd h194r (by decide) (by decide) | exact ⟨by fail, by fail⟩) 0 ⟨by decide, by decide⟩ ) ?_
                rintro _ _ ⟨rfl, h204⟩
                refine ⟨rfl, ?_⟩
                rcases h204 with ⟨v_h204, rfl, h204r, h204⟩
                refine go_ifq PM88 (k := 0) (p1 := 137) (p2 := 133) (L' := [some (.inr (.inr (some 0))), some (.inl p1), some (.inl p2), some (.inl (l28_3 + 1)), some (.inl l28_4), some (.inl l28_5), some (.inl 1), some (.inl v_h194)]) (st' := [.inl l28_4]) (w' := (SH, dt)) rfl (c_ne (a := v_h203) (b := v_h204) (by first | exact bnd h203r (by decide) (by decide) | exact ⟨by fail, by fail⟩) (by first | exact bnd h204r (by decide) (by decide) | exact ⟨by fail, by fail⟩)) (fun c206 => ?_) (fun c206 => ?_)
                · skip
                  replace c206 := hid c206
                  refine go_toq PM88 (k := 3) (pc' := 141) (L' := [some (.inr (.inr (some 0))), some (.inl p1), some (.inl p2), some (.inl (l28_3 + 1)), some (.inl (l28_4 + 0)), some (.inl l28_5), some (.inl 1), some (.inl v_h194)]) (st' := []) (w' := (SH, dt)) rfl ?_
                  exact GO.le (j199 (l28_3 + 1) (l28_4 + 0) (by omega) (by omega)) ⟨.inl rfl, .inl rfl, .inl rfl, .inl rfl, .inl rfl, .inl rfl, .inr ⟨rfl, trivial⟩, .inr ⟨rfl, trivial⟩, trivial⟩
                · skip
                  refine go_toq PM88 (k := 4) (pc' := 141) (L' := [some (.inr (.inr (some 0))), some (.inl p1), some (.inl p2), some (.inl (l28_3 + 1)), some (.inl (l28_4 + 1)), some (.inl l28_5), some (.inl 1), some (.inl v_h194)]) (st' := []) (w' := (SH, dt)) rfl ?_
                  exact GO.le (j199 (l28_3 + 1) (l28_4 + 1) (by omega) (by omega)) ⟨.inl rfl, .inl rfl, .inl rfl, .inl rfl, .inl rfl, .inl rfl, .inr ⟨rfl, trivial⟩, .inr ⟨rfl, trivial⟩, trivial⟩
              · skip
                refine go_toq PM88 (k := 1) (pc' := 141) (L' := [some (.inr (.inr (some 0))), some (.inl p1), some (.inl p2), some (.inl l28_3), some (.inl l28_4), some (.inl l28_5), some (.inl 1), some (.inl v_h194)]) (st' := []) (w' := (SH, dt)) rfl ?_
                exact GO.le (j199 l28_3 l28_4 (by omega) (by omega)) ⟨.inl rfl, .inl rfl, .inl rfl, .inl rfl, .inl rfl, .inl rfl, .inr ⟨rfl, trivial⟩, .inr ⟨rfl, trivial⟩, trivial⟩
            refine go_ifq PM88 (k := 2) (p1 := 65) (p2 := 48) (L' := [some (.inr (.inr (some 0))), some (.inl p1), some (.inl p2), some (.inl l28_3), some (.inl l28_4), some (.inl l28_5), none, none]) (st' := []) (w' := (SH, dt)) rfl (c_eq (a := p1) (b := (-1)) (by first | exact bnd h_p1 (by decide) (by decide) | exact ⟨by fail, by fail⟩) ⟨by decide, by decide⟩) (fun c207 => ?_) (fun c207 => ?_)
            · skip
              refine go_toq PM88 (k := 2) (pc' := 70) (L' := [some (.inr (.inr (some 0))), some (.inl p1), some (.inl p2), some (.inl l28_3), some (.inl l28_4), some (.inl l28_5), none, none]) (st' := [.inl 1]) (w' := (SH, dt)) rfl ?_
              exact GO.le (j193 ) ⟨.inl rfl, .inl rfl, .inl rfl, .inl rfl, .inl rfl, .inl rfl, .inl rfl, .inl rfl, trivial⟩
            · skip
              replace c207 := hid c207
              refine go_toq PM88 (k := 5) (pc' := 58) (L' := [some (.inr (.inr (some 0))), some (.inl p1), some (.inl p2), some (.inl l28_3), some (.inl l28_4), some (.inl l28_5), none, none]) (st' := [.inl 2, .inl l28_5, .inr (.inr (some 12))]) (w' := (SH, dt)) rfl ?_
              refine go_callq PM88 PM39 (Q' := _) rfl rfl rfl rfl (sp_X2_at_12 L xs sio (d + 1) dt hI  l28_5 (by first | exact bnd i157 (by decide) (by decide) | exact bndd i157 c172 (by decide) (by decide) | exact ⟨by fail, by fail⟩) 2 ⟨by decide, by decide⟩ ) ?_
              rintro _ _ ⟨rfl, h208⟩
              refine ⟨rfl, ?_⟩
              rcases h208 with ⟨v_h208, rfl, h208r, h208⟩
              refine go_ifq PM88 (k := 1) (p1 := 69) (p2 := 65) (L' := [some (.inr (.inr (some 0))), some (.inl p1), some (.inl p2), some (.inl l28_3), some (.inl l28_4), some (.inl l28_5), none, none]) (st' := []) (w' := (SH, dt)) rfl (c_ne (a := v_h208) (b := p1) (by first | exact bnd h208r (by decide) (by decide) | exact ⟨by fail, by fail⟩) (by first | exact bnd h_p1 (by decide) (by decide) | exact ⟨by fail, by fail⟩)) (fun c209 => ?_) (fun c209 => ?_)
              · skip
                replace c209 := hid c209
                refine go_toq PM88 (k := 7) (pc' := 82) (L' := [some (.inr (.inr (some 0))), some (.inl p1), some (.inl p2), some (.inl l28_3), some (.inl l28_4), some (.inl l28_5), some (.inl 0), none]) (st' := [.inl 1, .inl l28_5, .inr (.inr (some 12))]) (w' := (SH, dt)) rfl ?_
                refine go_callq PM88 PM39 (Q' := _) rfl rfl rfl rfl (sp_X2_at_12 L xs sio (d + 1) dt hI  l28_5 (by first | exact bnd i157 (by decide) (by decide) | exact bndd i157 c172 (by decide) (by decide) | exact ⟨by fail, by fail⟩) 1 ⟨by decide, by decide⟩ ) ?_
                rintro _ _ ⟨rfl, h210⟩
                refine ⟨rfl, ?_⟩
                rcases h210 with ⟨v_h210, rfl, h210r, h210⟩
                refine go_toq PM88 (k := 5) (pc' := 28) (L' := [some (.inr (.inr (some 0))), some (.inl p1), some (.inl p2), some (.inl l28_3), some (.inl l28_4), some (.inl (l28_5 + 1)), some (.inl 0), some (.inl v_h210)]) (st' := []) (w' := (SH, dt)) rfl ?_
                exact GO.le (ih_loop158 l28_3 l28_4 (l28_5 + 1) (by first | exact bndp i157 (by decide) (by decide) | exact bnde i157 c172 (by decide) (by decide) | omega) (by omega)) ⟨.inl rfl, .inl rfl, .inl rfl, .inl rfl, .inl rfl, .inl rfl, .inr ⟨rfl, trivial⟩, .inr ⟨rfl, trivial⟩, trivial⟩
              · skip
                refine go_toq PM88 (k := 2) (pc' := 70) (L' := [some (.inr (.inr (some 0))), some (.inl p1), some (.inl p2), some (.inl l28_3), some (.inl l28_4), some (.inl l28_5), none, none]) (st' := [.inl 1]) (w' := (SH, dt)) rfl ?_
                exact GO.le (j193 ) ⟨.inl rfl, .inl rfl, .inl rfl, .inl rfl, .inl rfl, .inl rfl, .inl rfl, .inl rfl, trivial⟩
      exact GO.le (loop158 _ 0 0 0 ⟨by decide, by decide⟩ (Nat.lt_succ_self _)) ⟨.inl rfl, .inl rfl, .inl rfl, .inl rfl, .inl rfl, .inl rfl, .inl rfl, .inl rfl, trivial⟩
    · skip
      refine go_retq PM88 (k := 2) (r := some (.inl (-1))) (w1 := (SH, dt)) rfl ?_
      exact ⟨rfl, ⟨_, rfl, trivial, trivial⟩⟩
  · skip
    refine go_retq PM88 (k := 2) (r := some (.inl (-1))) (w1 := (SH, dt)) rfl ?_
    exact ⟨rfl, ⟨_, rfl, trivial, trivial⟩⟩
theorem sp_X5_beside (L : Nat) (xs : Nat → Int32) (sio : Option Nat) (d : Nat) (dt : Nat → Nat → Int) (hI : InvC dt)  (p1 : Int) (h_p1 : (-2147483648) ≤ p1 ∧ p1 ≤ 2147483647)  : GO (am_XX L xs sio) (d + 4) 89 0 [some (.inr (.inr (some 0))), some (.inl p1), none, none, none, none] [] (SH, dt) (fun r w2 => ∃ dt2 : Nat → Nat → Int, w2 = (SH, dt2) ∧ InvC dt2 ∧ Fr [78] dt dt2 ∧ ((∃ v : Int, r = some (.inl v) ∧ ((-2147483648) ≤ v ∧ v ≤ 2147483647) ∧ True))) := by
  have hF : Fr [78] dt dt := Fr_refl
  refine go_toq PM89 (k := 3) (pc' := 3) (L' := [some (.inr (.inr (some 0))), some (.inl p1), none, none, none, none]) (st' := [.inl 4, .inl 0, .inl p1]) (w' := (SH, dt)) rfl ?_
  refine go_callq PM89 PM100 (Q' := _) rfl rfl rfl rfl (sp_X5_within L xs sio (d + 3) dt hI  p1 (by first | exact h_p1 | exact bnd h_p1 (by decide) (by decide) | exact ⟨by fail, by fail⟩) 0 ⟨by decide, by decide⟩ 4 ⟨by decide, by decide⟩ ) ?_
  rintro _ _ ⟨rfl, h1⟩
  refine ⟨rfl, ?_⟩
  rcases h1 with ⟨rfl, h1⟩ | ⟨rfl, h1⟩
  · skip
    refine go_toq PM89 (k := 4) (pc' := 16) (L' := [some (.inr (.inr (some 0))), some (.inl p1), none, none, none, none]) (st' := [.inl 0, .inr (.inr (some 78))]) (w' := (SH, dt)) rfl ?_
    refine go_callq PM89 PM261 (Q' := _) rfl rfl rfl rfl (sp_J7_fill_53178_78 L xs sio (d + 3) dt hI  0 ⟨by decide, by decide⟩ ) ?_
    rintro _ _ ⟨dt3, rfl, hI4, hF5, h2⟩
    refine ⟨rfl, ?_⟩
    have hF6 : Fr [78] dt dt3 := Fr_tr hF hF5 (by decide)
    rcases h2 with ⟨rfl, h2⟩
    refine go_toq PM89 (k := 2) (pc' := 21) (L' := [some (.inr (.inr (some 0))), some (.inl p1), some (.inl 0), none, none, none]) (st' := []) (w' := (SH, dt3)) rfl ?_
    have loop195 : ∀ (k_ : Nat) (l21_2 : Int) (dt191 : Nat → Nat → Int) (hI192 : InvC dt191) (hF193 : Fr [78] dt dt191) (i194 : 0 ≤ l21_2 ∧ l21_2 ≤ 40), (41 - l21_2).toNat < k_ → GO (am_XX L xs sio) (d + 4) 89 21 [some (.inr (.inr (some 0))), some (.inl p1), some (.inl l21_2), none, none, none] [] (SH, dt191) (fun r w2 => ∃ dt2 : Nat → Nat → Int, w2 = (SH, dt2) ∧ InvC dt2 ∧ Fr [78] dt dt2 ∧ ((∃ v : Int, r = some (.inl v) ∧ ((-2147483648) ≤ v ∧ v ≤ 2147483647) ∧ True))) := by
      intro k_
      induction k_ with
      | zero => intro l21_2 dt191 hI192 hF193 i194 hm; exact absurd hm (Nat.not_lt_zero _)
      | succ k_ ih_loop195 =>
        intro l21_2 dt191 hI192 hF193 i194 hm
        have r196 : 0 ≤ dt191 10 3 ∧ dt191 10 3 ≤ 40 := InvC_get hI192 10 3 rfl rfl
        refine go_ifq PM89 (k := 5) (p1 := 102) (p2 := 35) (L' := [some (.inr (.inr (some 0))), some (.inl p1), some (.inl l21_2), none, none, none]) (st' := []) (w' := (SH, dt191)) rfl (c_ge (a := l21_2) (b := dt191 10 3) (by first | exact bnd i194 (by decide) (by decide) | exact ⟨by fail, by fail⟩) (by first | exact bnd r196 (by decide) (by decide) | exact ⟨by fail, by fail⟩)) (fun c218 => ?_) (fun c218 => ?_)
        · skip
          refine go_ifq PM89 (k := 2) (p1 := 114) (p2 := 107) (L' := [some (.inr (.inr (some 0))), some (.inl p1), some (.inl l21_2), none, none, none]) (st' := []) (w' := (SH, dt191)) rfl (c_ge (a := p1) (b := 4) (by first | exact bnd h_p1 (by decide) (by decide) | exact ⟨by fail, by fail⟩) ⟨by decide, by decide⟩) (fun c219 => ?_) (fun c219 => ?_)
          · skip
            refine go_toq PM89 (k := 3) (pc' := 119) (L' := [some (.inr (.inr (some 0))), some (.inl p1), some (.inl l21_2), none, none, none]) (st' := [.inl 0, .inr (.inr (some 78))]) (w' := (SH, dt191)) rfl ?_
            have r220 : (-2147483648) ≤ dt191 78 0 ∧ dt191 78 0 ≤ 2147483647 := InvC_get hI192 78 0 rfl rfl
            refine go_smpq PM89 (L' := [some (.inr (.inr (some 0))), some (.inl p1), some (.inl l21_2), none, none, none]) (st' := [.inl (dt191 78 0)]) (w' := (SH, dt191)) rfl rfl (s_iald (n := 4) (f := dt191 78) rfl ⟨by decide, by decide⟩) ?_
            refine go_toq PM89 (k := 3) (pc' := 125) (L' := [some (.inr (.inr (some 0))), some (.inl p1), some (.inl l21_2), none, none, none]) (st' := [.inl 1, .inr (.inr (some 78)), .inl (dt191 78 0)]) (w' := (SH, dt191)) rfl ?_
            have r221 : (-2147483648) ≤ dt191 78 1 ∧ dt191 78 1 ≤ 2147483647 := InvC_get hI192 78 1 rfl rfl
            refine go_smpq PM89 (L' := [some (.inr (.inr (some 0))), some (.inl p1), some (.inl l21_2), none, none, none]) (st' := [.inl (dt191 78 1), .inl (dt191 78 0)]) (w' := (SH, dt191)) rfl rfl (s_iald (n := 4) (f := dt191 78) rfl ⟨by decide, by decide⟩) ?_
            refine go_toq PM89 (k := 4) (pc' := 132) (L' := [some (.inr (.inr (some 0))), some (.inl p1), some (.inl l21_2), none, none, none]) (st' := [.inl 2, .inr (.inr (some 78)), .inl ((dt191 78 0) + (dt191 78 1))]) (w' := (SH, dt191)) rfl ?_
            have r222 : (-2147483648) ≤ dt191 78 2 ∧ dt191 78 2 ≤ 2147483647 := InvC_get hI192 78 2 rfl rfl
            refine go_smpq PM89 (L' := [some (.inr (.inr (some 0))), some (.inl p1), some (.inl l21_2), none, none, none]) (st' := [.inl (dt191 78 2), .inl ((dt191 78 0) + (dt191 78 1))]) (w' := (SH, dt191)) rfl rfl (s_iald (n := 4) (f := dt191 78) rfl ⟨by decide, by decide⟩) ?_
            refine go_toq PM89 (k := 4) (pc' := 139) (L' := [some (.inr (.inr (some 0))), some (.inl p1), some (.inl l21_2), none, none, none]) (st' := [.inl 3, .inr (.inr (some 78)), .inl (((dt191 78 0) + (dt191 78 1)) + (dt191 78 2))]) (w' := (SH, dt191)) rfl ?_
            have r223 : (-2147483648) ≤ dt191 78 3 ∧ dt191 78 3 ≤ 2147483647 := InvC_get hI192 78 3 rfl rfl
            refine go_smpq PM89 (L' := [some (.inr (.inr (some 0))), some (.inl p1), some (.inl l21_2), none, none, none]) (st' := [.inl (dt191 78 3), .inl (((dt191 78 0) + (dt191 78 1)) + (dt191 78 2))]) (w' := (SH, dt191)) rfl rfl (s_iald (n := 4) (f := dt191 78) rfl ⟨by decide, by decide⟩) ?_
            have j229 :  GO (am_XX L xs sio) (d + 4) 89 170 [some (.inr (.inr (some 0))), none, none, none, none, none] [.inl 0] (SH, dt191) (fun r w2 => ∃ dt2 : Nat → Nat → Int, w2 = (SH, dt2) ∧ InvC dt2 ∧ Fr [78] dt dt2 ∧ ((∃ v : Int, r = some (.inl v) ∧ ((-2147483648) ≤ v ∧ v ≤ 2147483647) ∧ True))) := by
              skip
              refine go_retq PM89 (k := 0) (r := some (.inl 0)) (w1 := (SH, dt191)) rfl ?_
              exact ⟨dt191, rfl, hI192, hF193, ⟨_, rfl, ⟨by decide, by decide⟩, trivial⟩⟩
            have r231 := wr_RR ((((dt191 78 0) + (dt191 78 1)) + (dt191 78 2)) + (dt191 78 3))
            refine go_ifq PM89 (k := 3) (p1 := 169) (p2 := 146) (L' := [some (.inr (.inr (some 0))), some (.inl p1), some (.inl ((((dt191 78 0) + (dt191 78 1)) + (dt191 78 2)) + (dt191 78 3))), none, none, none]) (st' := []) (w' := (SH, dt191)) rfl (u_le (a := wr ((((dt191 78 0) + (dt191 78 1)) + (dt191 78 2)) + (dt191 78 3))) (b := 0)) (fun c230 => ?_) (fun c230 => ?_)
            · skip
              refine go_toq PM89 (k := 1) (pc' := 170) (L' := [some (.inr (.inr (some 0))), some (.inl p1), some (.inl ((((dt191 78 0) + (dt191 78 1)) + (dt191 78 2)) + (dt191 78 3))), none, none, none]) (st' := [.inl 0]) (w' := (SH, dt191)) rfl ?_
              exact GO.le (j229 ) ⟨.inl rfl, .inr ⟨rfl, trivial⟩, .inr ⟨rfl, trivial⟩, .inl rfl, .inl rfl, .inl rfl, trivial⟩
            · skip
              refine go_toq PM89 (k := 4) (pc' := 152) (L' := [some (.inr (.inr (some 0))), some (.inl p1), some (.inl ((((dt191 78 0) + (dt191 78 1)) + (dt191 78 2)) + (dt191 78 3))), none, none, none]) (st' := [.inl 1, .inr (.inr (some 78)), .inl 4]) (w' := (SH, dt191)) rfl ?_
              refine go_smpq PM89 (L' := [some (.inr (.inr (some 0))), some (.inl p1), some (.inl ((((dt191 78 0) + (dt191 78 1)) + (dt191 78 2)) + (dt191 78 3))), none, none, none]) (st' := [.inl (dt191 78 1), .inl 4]) (w' := (SH, dt191)) rfl rfl (s_iald (n := 4) (f := dt191 78) rfl ⟨by decide, by decide⟩) ?_
              refine go_toq PM89 (k := 3) (pc' := 158) (L' := [some (.inr (.inr (some 0))), some (.inl p1), some (.inl ((((dt191 78 0) + (dt191 78 1)) + (dt191 78 2)) + (dt191 78 3))), none, none, none]) (st' := [.inl 2, .inr (.inr (some 78)), .inl (dt191 78 1), .inl 4]) (w' := (SH, dt191)) rfl ?_
              refine go_smpq PM89 (L' := [some (.inr (.inr (some 0))), some (.inl p1), some (.inl ((((dt191 78 0) + (dt191 78 1)) + (dt191 78 2)) + (dt191 78 3))), none, none, none]) (st' := [.inl (dt191 78 2), .inl (dt191 78 1), .inl 4]) (w' := (SH, dt191)) rfl rfl (s_iald (n := 4) (f := dt191 78) rfl ⟨by decide, by decide⟩) ?_
              have r233 := wr_RR (4 * ((dt191 78 1) + (dt191 78 2)))
              have r234 := wr_RR ((((dt191 78 0) + (dt191 78 1)) + (dt191 78 2)) + (dt191 78 3))
              refine go_ifq PM89 (k := 3) (p1 := 169) (p2 := 165) (L' := [some (.inr (.inr (some 0))), some (.inl p1), some (.inl ((((dt191 78 0) + (dt191 78 1)) + (dt191 78 2)) + (dt191 78 3))), none, none, none]) (st' := []) (w' := (SH, dt191)) rfl (u_gt (a := wr (4 * ((dt191 78 1) + (dt191 78 2)))) (b := wr ((((dt191 78 0) + (dt191 78 1)) + (dt191 78 2)) + (dt191 78 3)))) (fun c232 => ?_) (fun c232 => ?_)
              · skip
                refine go_toq PM89 (k := 1) (pc' := 170) (L' := [some (.inr (.inr (some 0))), some (.inl p1), some (.inl ((((dt191 78 0) + (dt191 78 1)) + (dt191 78 2)) + (dt191 78 3))), none, none, none]) (st' := [.inl 0]) (w' := (SH, dt191)) rfl ?_
                exact GO.le (j229 ) ⟨.inl rfl, .inr ⟨rfl, trivial⟩, .inr ⟨rfl, trivial⟩, .inl rfl, .inl rfl, .inl rfl, trivial⟩
              · skip
                refine go_retq PM89 (k := 2) (r := some (.inl 1)) (w1 := (SH, dt191)) rfl ?_
                exact ⟨dt191, rfl, hI192, hF193, ⟨_, rfl, ⟨by decide, by decide⟩, trivial⟩⟩
          · skip
            refine go_toq PM89 (k := 3) (pc' := 112) (L' := [some (.inr (.inr (some 0))), some (.inl p1), some (.inl l21_2), none, none, none]) (st' := [.inl p1, .inr (.inr (some 78))]) (w' := (SH, dt191)) rfl ?_
            have r235 : (-2147483648) ≤ dt191 78 (p1).toNat ∧ dt191 78 (p1).toNat ≤ 2147483647 := InvC_get hI192 78 (p1).toNat rfl rfl
            refine go_smpq PM89 (L' := [some (.inr (.inr (some 0))), some (.inl p1), some (.inl l21_2), none, none, none]) (st' := [.inl (dt191 78 (p1).toNat)]) (w' := (SH, dt191)) rfl rfl (s_iald (n := 4) (f := dt191 78) rfl (by first | exact bndc h_p1 c219 (by decide) (by decide) | exact bndx h_p1 (by decide) (by decide) | exact ⟨by omega, by omega⟩)) ?_
            refine go_retq PM89 (k := 0) (r := some (.inl (dt191 78 (p1).toNat))) (w1 := (SH, dt191)) rfl ?_
            exact ⟨dt191, rfl, hI192, hF193, ⟨_, rfl, (by first | exact bnd r235 (by decide) (by decide) | exact ⟨by fail, by fail⟩), trivial⟩⟩
        · skip
          refine go_toq PM89 (k := 3) (pc' := 38) (L' := [some (.inr (.inr (some 0))), some (.inl p1), some (.inl l21_2), none, none, none]) (st' := [.inl 0, .inl l21_2, .inr (.inr (some 0))]) (w' := (SH, dt191)) rfl ?_
          refine go_callq PM89 PM131 (Q' := _) rfl rfl rfl rfl (sp_X5_lastRight L xs sio (d + 0) dt191 hI192  l21_2 (by first | exact bnd i194 (by decide) (by decide) | exact bndd i194 c218 (by decide) (by decide) | exact ⟨by fail, by fail⟩) 0 ⟨by decide, by decide⟩ ) ?_
          rintro _ _ ⟨rfl, h236⟩
          refine ⟨rfl, ?_⟩
          rcases h236 with ⟨rfl, h236⟩ | ⟨rfl, h236⟩ | ⟨rfl, h236⟩
          · skip
            refine go_toq PM89 (k := 4) (pc' := 45) (L' := [some (.inr (.inr (some 0))), some (.inl p1), some (.inl l21_2), some (.inl 1), none, none]) (st' := [.inl 1, .inl l21_2, .inr (.inr (some 0))]) (w' := (SH, dt191)) rfl ?_
            refine go_callq PM89 PM131 (Q' := _) rfl rfl rfl rfl (sp_X5_lastRight L xs sio (d + 0) dt191 hI192  l21_2 (by first | exact bnd i194 (by decide) (by decide) | exact bndd i194 c218 (by decide) (by decide) | exact ⟨by fail, by fail⟩) 1 ⟨by decide, by decide⟩ ) ?_
            rintro _ _ ⟨rfl, h237⟩
            refine ⟨rfl, ?_⟩
            rcases h237 with ⟨rfl, h237⟩ | ⟨rfl, h237⟩ | ⟨rfl, h237⟩
            · skip
              refine go_toq PM89 (k := 23) (pc' := 92) (L' := [some (.inr (.inr (some 0))), some (.inl p1), some (.inl l21_2), some (.inl 1), some (.inl 1), some (.inl 0)]) (st' := [.inl 0, .inr (.inr (some 78)), .inl 0, .inr (.inr (some 78))]) (w' := (SH, dt191)) rfl ?_
              have r246 : (-2147483648) ≤ dt191 78 0 ∧ dt191 78 0 ≤ 2147483647 := InvC_get hI192 78 0 rfl rfl
              refine go_smpq PM89 (L' := [some (.inr (.inr (some 0))), some (.inl p1), some (.inl l21_2), some (.inl 1), some (.inl 1), some (.inl 0)]) (st' := [.inl (dt191 78 0), .inl 0, .inr (.inr (some 78))]) (w' := (SH, dt191)) rfl rfl (s_iald (n := 4) (f := dt191 78) rfl ⟨by decide, by decide⟩) ?_
              refine go_toq PM89 (k := 2) (pc' := 95) (L' := [some (.inr (.inr (some 0))), some (.inl p1), some (.inl l21_2), some (.inl 1), some (.inl 1), some (.inl 0)]) (st' := [.inl ((dt191 78 0) + 1), .inl 0, .inr (.inr (some 78))]) (w' := (SH, dt191)) rfl ?_
              have r247 := wr_RR ((dt191 78 0) + 1)
              have hI248 : InvC (u2 dt191 78 0 (wr ((dt191 78 0) + 1))) := InvC_u2 hI192 (lo := -2147483648) (hi := 2147483647) rfl rfl rfl (by omega) (by omega)
              have hF249 : Fr [78] dt (u2 dt191 78 0 (wr ((dt191 78 0) + 1))) := Fr_u2 hF193 (by decide)
              refine go_smpq PM89 (L' := [some (.inr (.inr (some 0))), some (.inl p1), some (.inl l21_2), some (.inl 1), some (.inl 1), some (.inl 0)]) (st' := []) (w' := (SH, (u2 dt191 78 0 (wr ((dt191 78 0) + 1))))) rfl rfl (s_iastw (n := 4) rfl ⟨by decide, by decide⟩) ?_
              refine go_toq PM89 (k := 2) (pc' := 21) (L' := [some (.inr (.inr (some 0))), some (.inl p1), some (.inl (l21_2 + 1)), some (.inl 1), some (.inl 1), some (.inl 0)]) (st' := []) (w' := (SH, (u2 dt191 78 0 (wr ((dt191 78 0) + 1))))) rfl ?_
              exact GO.le (ih_loop195 (l21_2 + 1) (u2 dt191 78 0 (wr ((dt191 78 0) + 1))) hI248 hF249 (by first | exact bndp i194 (by decide) (by decide) | exact bnde i194 c218 (by decide) (by decide) | omega) (by omega)) ⟨.inl rfl, .inl rfl, .inl rfl, .inr ⟨rfl, trivial⟩, .inr ⟨rfl, trivial⟩, .inr ⟨rfl, trivial⟩, trivial⟩
            · skip
              refine go_toq PM89 (k := 22) (pc' := 92) (L' := [some (.inr (.inr (some 0))), some (.inl p1), some (.inl l21_2), some (.inl 1), some (.inl 0), some (.inl 1)]) (st' := [.inl 1, .inr (.inr (some 78)), .inl 1, .inr (.inr (some 78))]) (w' := (SH, dt191)) rfl ?_
              have r258 : (-2147483648) ≤ dt191 78 1 ∧ dt191 78 1 ≤ 2147483647 := InvC_get hI192 78 1 rfl rfl
              refine go_smpq PM89 (L' := [some (.inr (.inr (some 0))), some (.inl p1), some (.inl l21_2), some (.inl 1), some (.inl 0), some (.inl 1)]) (st' := [.inl (dt191 78 1), .inl 1, .inr (.inr (some 78))]) (w' := (SH, dt191)) rfl rfl (s_iald (n := 4) (f := dt191 78) rfl ⟨by decide, by decide⟩) ?_
              refine go_toq PM89 (k := 2) (pc' := 95) (L' := [some (.inr (.inr (some 0))), some (.inl p1), some (.inl l21_2), some (.inl 1), some (.inl 0), some (.inl 1)]) (st' := [.inl ((dt191 78 1) + 1), .inl 1, .inr (.inr (some 78))]) (w' := (SH, dt191)) rfl ?_
              have r259 := wr_RR ((dt191 78 1) + 1)
              have hI260 : InvC (u2 dt191 78 1 (wr ((dt191 78 1) + 1))) := InvC_u2 hI192 (lo := -2147483648) (hi := 2147483647) rfl rfl rfl (by omega) (by omega)
              have hF261 : Fr [78] dt (u2 dt191 78 1 (wr ((dt191 78 1) + 1))) := Fr_u2 hF193 (by decide)
              refine go_smpq PM89 (L' := [some (.inr (.inr (some 0))), some (.inl p1), some (.inl l21_2), some (.inl 1), some (.inl 0), some (.inl 1)]) (st' := []) (w' := (SH, (u2 dt191 78 1 (wr ((dt191 78 1) + 1))))) rfl rfl (s_iastw (n := 4) rfl ⟨by decide, by decide⟩) ?_
              refine go_toq PM89 (k := 2) (pc' := 21) (L' := [some (.inr (.inr (some 0))), some (.inl p1), some (.inl (l21_2 + 1)), some (.inl 1), some (.inl 0), some (.inl 1)]) (st' := []) (w' := (SH, (u2 dt191 78 1 (wr ((dt191 78 1) + 1))))) rfl ?_
              exact GO.le (ih_loop195 (l21_2 + 1) (u2 dt191 78 1 (wr ((dt191 78 1) + 1))) hI260 hF261 (by first | exact bndp i194 (by decide) (by decide) | exact bnde i194 c218 (by decide) (by decide) | omega) (by omega)) ⟨.inl rfl, .inl rfl, .inl rfl, .inr ⟨rfl, trivial⟩, .inr ⟨rfl, trivial⟩, .inr ⟨rfl, trivial⟩, trivial⟩
            · skip
              refine go_toq PM89 (k := 9) (pc' := 21) (L' := [some (.inr (.inr (some 0))), some (.inl p1), some (.inl (l21_2 + 1)), some (.inl 1), some (.inl (-1)), none]) (st' := []) (w' := (SH, dt191)) rfl ?_
              exact GO.le (ih_loop195 (l21_2 + 1) dt191 hI192 hF193 (by first | exact bndp i194 (by decide) (by decide) | exact bnde i194 c218 (by decide) (by decide) | omega) (by omega)) ⟨.inl rfl, .inl rfl, .inl rfl, .inr ⟨rfl, trivial⟩, .inr ⟨rfl, trivial⟩, .inl rfl, trivial⟩
          · skip
            refine go_toq PM89 (k := 4) (pc' := 45) (L' := [some (.inr (.inr (some 0))), some (.inl p1), some (.inl l21_2), some (.inl 0), none, none]) (st' := [.inl 1, .inl l21_2, .inr (.inr (some 0))]) (w' := (SH, dt191)) rfl ?_
            refine go_callq PM89 PM131 (Q' := _) rfl rfl rfl rfl (sp_X5_lastRight L xs sio (d + 0) dt191 hI192  l21_2 (by first | exact bnd i194 (by decide) (by decide) | exact bndd i194 c218 (by decide) (by decide) | exact ⟨by fail, by fail⟩) 1 ⟨by decide, by decide⟩ ) ?_
            rintro _ _ ⟨rfl, h262⟩
            refine ⟨rfl, ?_⟩
            rcases h262 with ⟨rfl, h262⟩ | ⟨rfl, h262⟩ | ⟨rfl, h262⟩
            · skip
              refine go_toq PM89 (k := 22) (pc' := 92) (L' := [some (.inr (.inr (some 0))), some (.inl p1), some (.inl l21_2), some (.inl 0), some (.inl 1), some (.inl 2)]) (st' := [.inl 2, .inr (.inr (some 78)), .inl 2, .inr (.inr (some 78))]) (w' := (SH, dt191)) rfl ?_
              have r271 : (-2147483648) ≤ dt191 78 2 ∧ dt191 78 2 ≤ 2147483647 := InvC_get hI192 78 2 rfl rfl
              refine go_smpq PM89 (L' := [some (.inr (.inr (some 0))), some (.inl p1), some (.inl l21_2), some (.inl 0), some (.inl 1), some (.inl 2)]) (st' := [.inl (dt191 78 2), .inl 2, .inr (.inr (some 78))]) (w' := (SH, dt191)) rfl rfl (s_iald (n := 4) (f := dt191 78) rfl ⟨by decide, by decide⟩) ?_
              refine go_toq PM89 (k := 2) (pc' := 95) (L' := [some (.inr (.inr (some 0))), some (.inl p1), some (.inl l21_2), some (.inl 0), some (.inl 1), some (.inl 2)]) (st' := [.inl ((dt191 78 2) + 1), .inl 2, .inr (.inr (some 78))]) (w' := (SH, dt191)) rfl ?_
              have r272 := wr_RR ((dt191 78 2) + 1)
              have hI273 : InvC (u2 dt191 78 2 (wr ((dt191 78 2) + 1))) := InvC_u2 hI192 (lo := -2147483648) (hi := 2147483647) rfl rfl rfl (by omega) (by omega)
              have hF274 : Fr [78] dt (u2 dt191 78 2 (wr ((dt191 78 2) + 1))) := Fr_u2 hF193 (by decide)
              refine go_smpq PM89 (L' := [some (.inr (.inr (some 0))), some (.inl p1), some (.inl l21_2), some (.inl 0), some (.inl 1), some (.inl 2)]) (st' := []) (w' := (SH, (u2 dt191 78 2 (wr ((dt191 78 2) + 1))))) rfl rfl (s_iastw (n := 4) rfl ⟨by decide, by decide⟩) ?_
              refine go_toq PM89 (k := 2) (pc' := 21) (L' := [some (.inr (.inr (some 0))), some (.inl p1), some (.inl (l21_2 + 1)), some (.inl 0), some (.inl 1), some (.inl 2)]) (st' := []) (w' := (SH, (u2 dt191 78 2 (wr ((dt191 78 2) + 1))))) rfl ?_
              exact GO.le (ih_loop195 (l21_2 + 1) (u2 dt191 78 2 (wr ((dt191 78 2) + 1))) hI273 hF274 (by first | exact bndp i194 (by decide) (by decide) | exact bnde i194 c218 (by decide) (by decide) | omega) (by omega)) ⟨.inl rfl, .inl rfl, .inl rfl, .inr ⟨rfl, trivial⟩, .inr ⟨rfl, trivial⟩, .inr ⟨rfl, trivial⟩, trivial⟩
            · skip
              refine go_toq PM89 (k := 21) (pc' := 92) (L' := [some (.inr (.inr (some 0))), some (.inl p1), some (.inl l21_2), some (.inl 0), some (.inl 0), some (.inl 3)]) (st' := [.inl 3, .inr (.inr (some 78)), .inl 3, .inr (.inr (some 78))]) (w' := (SH, dt191)) rfl ?_
              have r283 : (-2147483648) ≤ dt191 78 3 ∧ dt191 78 3 ≤ 2147483647 := InvC_get hI192 78 3 rfl rfl
              refine go_smpq PM89 (L' := [some (.inr (.inr (some 0))), some (.inl p1), some (.inl l21_2), some (.inl 0), some (.inl 0), some (.inl 3)]) (st' := [.inl (dt191 78 3), .inl 3, .inr (.inr (some 78))]) (w' := (SH, dt191)) rfl rfl (s_iald (n := 4) (f := dt191 78) rfl ⟨by decide, by decide⟩) ?_
              refine go_toq PM89 (k := 2) (pc' := 95) (L' := [some (.inr (.inr (some 0))), some (.inl p1), some (.inl l21_2), some (.inl 0), some (.inl 0), some (.inl 3)]) (st' := [.inl ((dt191 78 3) + 1), .inl 3, .inr (.inr (some 78))]) (w' := (SH, dt191)) rfl ?_
              have r284 := wr_RR ((dt191 78 3) + 1)
              have hI285 : InvC (u2 dt191 78 3 (wr ((dt191 78 3) + 1))) := InvC_u2 hI192 (lo := -2147483648) (hi := 2147483647) rfl rfl rfl (by omega) (by omega)
              have hF286 : Fr [78] dt (u2 dt191 78 3 (wr ((dt191 78 3) + 1))) := Fr_u2 hF193 (by decide)
              refine go_smpq PM89 (L' := [some (.inr (.inr (some 0))), some (.inl p1), some (.inl l21_2), some (.inl 0), some (.inl 0), some (.inl 3)]) (st' := []) (w' := (SH, (u2 dt191 78 3 (wr ((dt191 78 3) + 1))))) rfl rfl (s_iastw (n := 4) rfl ⟨by decide, by decide⟩) ?_
              refine go_toq PM89 (k := 2) (pc' := 21) (L' := [some (.inr (.inr (some 0))), some (.inl p1), some (.inl (l21_2 + 1)), some (.inl 0), some (.inl 0), some (.inl 3)]) (st' := []) (w' := (SH, (u2 dt191 78 3 (wr ((dt191 78 3) + 1))))) rfl ?_
              exact GO.le (ih_loop195 (l21_2 + 1) (u2 dt191 78 3 (wr ((dt191 78 3) + 1))) hI285 hF286 (by first | exact bndp i194 (by decide) (by decide) | exact bnde i194 c218 (by decide) (by decide) | omega) (by omega)) ⟨.inl rfl, .inl rfl, .inl rfl, .inr ⟨rfl, trivial⟩, .inr ⟨rfl, trivial⟩, .inr ⟨rfl, trivial⟩, trivial⟩
            · skip
              refine go_toq PM89 (k := 9) (pc' := 21) (L' := [some (.inr (.inr (some 0))), some (.inl p1), some (.inl (l21_2 + 1)), some (.inl 0), some (.inl (-1)), none]) (st' := []) (w' := (SH, dt191)) rfl ?_
              exact GO.le (ih_loop195 (l21_2 + 1) dt191 hI192 hF193 (by first | exact bndp i194 (by decide) (by decide) | exact bnde i194 c218 (by decide) (by decide) | omega) (by omega)) ⟨.inl rfl, .inl rfl, .inl rfl, .inr ⟨rfl, trivial⟩, .inr ⟨rfl, trivial⟩, .inl rfl, trivial⟩
          · skip
            refine go_toq PM89 (k := 4) (pc' := 45) (L' := [some (.inr (.inr (some 0))), some (.inl p1), some (.inl l21_2), some (.inl (-1)), none, none]) (st' := [.inl 1, .inl l21_2, .inr (.inr (some 0))]) (w' := (SH, dt191)) rfl ?_
            refine go_callq PM89 PM131 (Q' := _) rfl rfl rfl rfl (sp_X5_lastRight L xs sio (d + 0) dt191 hI192  l21_2 (by first | exact bnd i194 (by decide) (by decide) | exact bndd i194 c218 (by decide) (by decide) | exact ⟨by fail, by fail⟩) 1 ⟨by decide, by decide⟩ ) ?_
            rintro _ _ ⟨rfl, h287⟩
            refine ⟨rfl, ?_⟩
            rcases h287 with ⟨rfl, h287⟩ | ⟨rfl, h287⟩ | ⟨rfl, h287⟩
            · skip
              refine go_toq PM89 (k := 6) (pc' := 21) (L' := [some (.inr (.inr (some 0))), some (.inl p1), some (.inl (l21_2 + 1)), some (.inl (-1)), some (.inl 1), none]) (st' := []) (w' := (SH, dt191)) rfl ?_
              exact GO.le (ih_loop195 (l21_2 + 1) dt191 hI192 hF193 (by first | exact bndp i194 (by decide) (by decide) | exact bnde i194 c218 (by decide) (by decide) | omega) (by omega)) ⟨.inl rfl, .inl rfl, .inl rfl, .inr ⟨rfl, trivial⟩, .inr ⟨rfl, trivial⟩, .inl rfl, trivial⟩
            · skip
              refine go_toq PM89 (k := 6) (pc' := 21) (L' := [some (.inr (.inr (some 0))), some (.inl p1), some (.inl (l21_2 + 1)), some (.inl (-1)), some (.inl 0), none]) (st' := []) (w' := (SH, dt191)) rfl ?_
              exact GO.le (ih_loop195 (l21_2 + 1) dt191 hI192 hF193 (by first | exact bndp i194 (by decide) (by decide) | exact bnde i194 c218 (by decide) (by decide) | omega) (by omega)) ⟨.inl rfl, .inl rfl, .inl rfl, .inr ⟨rfl, trivial⟩, .inr ⟨rfl, trivial⟩, .inl rfl, trivial⟩
            · skip
              refine go_toq PM89 (k := 6) (pc' := 21) (L' := [some (.inr (.inr (some 0))), some (.inl p1), some (.inl (l21_2 + 1)), some (.inl (-1)), some (.inl (-1)), none]) (st' := []) (w' := (SH, dt191)) rfl ?_
              exact GO.le (ih_loop195 (l21_2 + 1) dt191 hI192 hF193 (by first | exact bndp i194 (by decide) (by decide) | exact bnde i194 c218 (by decide) (by decide) | omega) (by omega)) ⟨.inl rfl, .inl rfl, .inl rfl, .inr ⟨rfl, trivial⟩, .inr ⟨rfl, trivial⟩, .inl rfl, trivial⟩
    exact GO.le (loop195 _ 0 dt3 hI4 hF6 ⟨by decide, by decide⟩ (Nat.lt_succ_self _)) ⟨.inl rfl, .inl rfl, .inl rfl, .inl rfl, .inl rfl, .inl rfl, trivial⟩
  · skip
    refine go_retq PM89 (k := 2) (r := some (.inl (-1))) (w1 := (SH, dt)) rfl ?_
    exact ⟨dt, rfl, hI, hF, ⟨_, rfl, ⟨by decide, by decide⟩, trivial⟩⟩
theorem sp_X5_way (L : Nat) (xs : Nat → Int32) (sio : Option Nat) (d : Nat) (dt : Nat → Nat → Int) (hI : InvC dt)  (p1 : Int) (h_p1 : (-2147483648) ≤ p1 ∧ p1 ≤ 2147483647)  : GO (am_XX L xs sio) (d + 3) 91 0 [some (.inr (.inr (some 0))), some (.inl p1), none, none] [] (SH, dt) (fun r w2 => w2 = (SH, dt) ∧ ((∃ v : Int, r = some (.inl v) ∧ True ∧ True))) := by
  refine go_toq PM91 (k := 3) (pc' := 4) (L' := [some (.inr (.inr (some 0))), some (.inl p1), none, none]) (st' := [.inl 24, .inl 0, .inl p1]) (w' := (SH, dt)) rfl ?_
  refine go_callq PM91 PM100 (Q' := _) rfl rfl rfl rfl (sp_X5_within L xs sio (d + 2) dt hI  p1 (by first | exact h_p1 | exact bnd h_p1 (by decide) (by decide) | exact ⟨by fail, by fail⟩) 0 ⟨by decide, by decide⟩ 24 ⟨by decide, by decide⟩ ) ?_
  rintro _ _ ⟨rfl, h1⟩
  refine ⟨rfl, ?_⟩
  rcases h1 with ⟨rfl, h1⟩ | ⟨rfl, h1⟩
  · skip
    refine go_ifq PM91 (k := 3) (p1 := 32) (p2 := 18) (L' := [some (.inr (.inr (some 0))), some (.inl p1), none, none]) (st' := []) (w' := (SH, dt)) rfl (c_ge (a := p1) (b := 24) (by first | exact bnd h_p1 (by decide) (by decide) | exact ⟨by fail, by fail⟩) ⟨by decide, by decide⟩) (fun c2 => ?_) (fun c2 => ?_)
    · skip
      refine go_toq PM91 (k := 4) (pc' := 36) (L' := [some (.inr (.inr (some 0))), some (.inl p1), some (.inl 0), some (.inl 0)]) (st' := []) (w' := (SH, dt)) rfl ?_
      have loop37 : ∀ (k_ : Nat) (l36_2 : Int) (l36_3 : Int) (i36 : 0 ≤ l36_3 ∧ l36_3 ≤ 24), (25 - l36_3).toNat < k_ → GO (am_XX L xs sio) (d + 3) 91 36 [some (.inr (.inr (some 0))), none, some (.inl l36_2), some (.inl l36_3)] [] (SH, dt) (fun r w2 => w2 = (SH, dt) ∧ ((∃ v : Int, r = some (.inl v) ∧ True ∧ True))) := by
        intro k_
        induction k_ with
        | zero => intro l36_2 l36_3 i36 hm; exact absurd hm (Nat.not_lt_zero _)
        | succ k_ ih_loop37 =>
          intro l36_2 l36_3 i36 hm
          refine go_ifq PM91 (k := 2) (p1 := 64) (p2 := 42) (L' := [some (.inr (.inr (some 0))), none, some (.inl l36_2), some (.inl l36_3)]) (st' := []) (w' := (SH, dt)) rfl (c_ge (a := l36_3) (b := 24) (by first | exact bnd i36 (by decide) (by decide) | exact ⟨by fail, by fail⟩) ⟨by decide, by decide⟩) (fun c40 => ?_) (fun c40 => ?_)
          · skip
            refine go_retq PM91 (k := 1) (r := some (.inl l36_2)) (w1 := (SH, dt)) rfl ?_
            exact ⟨rfl, ⟨_, rfl, trivial, trivial⟩⟩
          · skip
            refine go_toq PM91 (k := 3) (pc' := 45) (L' := [some (.inr (.inr (some 0))), none, some (.inl l36_2), some (.inl l36_3)]) (st' := [.inl l36_3, .inr (.inr (some 0)), .inl l36_2]) (w' := (SH, dt)) rfl ?_
            refine go_callq PM91 PM133 (Q' := _) rfl rfl rfl rfl (sp_X5_isLong L xs sio (d + 0) dt hI  l36_3 (by first | exact bnd i36 (by decide) (by decide) | exact bndd i36 c40 (by decide) (by decide) | exact ⟨by fail, by fail⟩) ) ?_
            rintro _ _ ⟨rfl, h41⟩
            refine ⟨rfl, ?_⟩
            rcases h41 with ⟨rfl, h41⟩ | ⟨rfl, h41⟩
            · skip
              refine go_toq PM91 (k := 7) (pc' := 36) (L' := [some (.inr (.inr (some 0))), none, some (.inl (l36_2 + 1)), some (.inl (l36_3 + 1))]) (st' := []) (w' := (SH, dt)) rfl ?_
              exact GO.le (ih_loop37 (l36_2 + 1) (l36_3 + 1) (by first | exact bndp i36 (by decide) (by decide) | exact bnde i36 c40 (by decide) (by decide) | fail) (by omega)) ⟨.inl rfl, .inl rfl, .inl rfl, .inl rfl, trivial⟩
            · skip
              refine go_toq PM91 (k := 6) (pc' := 36) (L' := [some (.inr (.inr (some 0))), none, some (.inl (l36_2 + 0)), some (.inl (l36_3 + 1))]) (st' := []) (w' := (SH, dt)) rfl ?_
              exact GO.le (ih_loop37 (l36_2 + 0) (l36_3 + 1) (by first | exact bndp i36 (by decide) (by decide) | exact bnde i36 c40 (by decide) (by decide) | fail) (by omega)) ⟨.inl rfl, .inl rfl, .inl rfl, .inl rfl, trivial⟩
      exact GO.le (loop37 _ 0 0 ⟨by decide, by decide⟩ (Nat.lt_succ_self _)) ⟨.inl rfl, .inr ⟨rfl, trivial⟩, .inl rfl, .inl rfl, trivial⟩
    · skip
      refine go_toq PM91 (k := 2) (pc' := 20) (L' := [some (.inr (.inr (some 0))), some (.inl p1), none, none]) (st' := [.inl p1, .inr (.inr (some 0))]) (w' := (SH, dt)) rfl ?_
      refine go_callq PM91 PM133 (Q' := _) rfl rfl rfl rfl (sp_X5_isLong L xs sio (d + 0) dt hI  p1 (by first | exact h_p1 | exact bnd h_p1 (by decide) (by decide) | exact ⟨by omega, by omega⟩) ) ?_
      rintro _ _ ⟨rfl, h42⟩
      refine ⟨rfl, ?_⟩
      rcases h42 with ⟨rfl, h42⟩ | ⟨rfl, h42⟩
      · skip
        refine go_retq PM91 (k := 3) (r := some (.inl 1)) (w1 := (SH, dt)) rfl ?_
        exact ⟨rfl, ⟨_, rfl, trivial, trivial⟩⟩
      · skip
        refine go_retq PM91 (k := 2) (r := some (.inl 0)) (w1 := (SH, dt)) rfl ?_
        exact ⟨rfl, ⟨_, rfl, trivial, trivial⟩⟩
  · skip
    refine go_retq PM91 (k := 2) (r := some (.inl (-1))) (w1 := (SH, dt)) rfl ?_
    exact ⟨rfl, ⟨_, rfl, trivial, trivial⟩⟩
theorem sp_X5_houses (L : Nat) (xs : Nat → Int32) (sio : Option Nat) (d : Nat) (dt : Nat → Nat → Int) (hI : InvC dt)  (p1 : Int) (h_p1 : (-2147483648) ≤ p1 ∧ p1 ≤ 2147483647)  : GO (am_XX L xs sio) (d + 4) 93 0 [some (.inr (.inr (some 0))), some (.inl p1)] [] (SH, dt) (fun r w2 => w2 = (SH, dt) ∧ ((∃ v : Int, r = some (.inl v) ∧ True ∧ True))) := by
  refine go_ifq PM93 (k := 2) (p1 := 32) (p2 := 6) (L' := [some (.inr (.inr (some 0))), some (.inl p1)]) (st' := []) (w' := (SH, dt)) rfl (c_lt (a := p1) (b := 10) (by first | exact bnd h_p1 (by decide) (by decide) | exact ⟨by fail, by fail⟩) ⟨by decide, by decide⟩) (fun c1 => ?_) (fun c1 => ?_)
  · skip
    have r2 := wr_RR p1
    refine go_toq PM93 (k := 1) (pc' := 33) (L' := [some (.inr (.inr (some 0))), some (.inl p1)]) (st' := [.inl p1]) (w' := (SH, dt)) rfl ?_
    have e4 : wr p1 = p1 := wr_R ⟨by omega, by omega⟩
    by_cases c3 : wr p1 < 0 ∨ 3 < wr p1
    · refine go_swoq PM93 (p1 := 84) (lo := 0) (hi := 3) rfl rfl c3 ?_
      refine go_retq PM93 (k := 1) (r := some (.inl (-1))) (w1 := (SH, dt)) rfl ?_
      exact ⟨rfl, ⟨_, rfl, trivial, trivial⟩⟩
    · have c5 : wr p1 = 0 ∨ wr p1 = 1 ∨ wr p1 = 2 ∨ wr p1 = 3 := by omega
      rcases c5 with c5 | c5 | c5 | c5
      · refine go_swiq PM93 (v := 0) (p1 := 64) (lo := 0) (hi := 3) rfl c5 (by decide) rfl ?_
        refine go_toq PM93 (k := 1) (pc' := 65) (L' := [some (.inr (.inr (some 0))), some (.inl p1)]) (st' := [.inr (.inr (some 0))]) (w' := (SH, dt)) rfl ?_
        refine go_callq PM93 PM136 (Q' := _) rfl rfl rfl rfl (sp_X5_joined L xs sio (d + 1) dt hI   ) ?_
        rintro _ _ ⟨rfl, h6⟩
        refine ⟨rfl, ?_⟩
        rcases h6 with ⟨v_h6, rfl, h6r, h6⟩
        refine go_retq PM93 (k := 0) (r := some (.inl v_h6)) (w1 := (SH, dt)) rfl ?_
        exact ⟨rfl, ⟨_, rfl, trivial, trivial⟩⟩
      · refine go_swiq PM93 (v := 1) (p1 := 69) (lo := 0) (hi := 3) rfl c5 (by decide) rfl ?_
        refine go_toq PM93 (k := 1) (pc' := 70) (L' := [some (.inr (.inr (some 0))), some (.inl p1)]) (st' := [.inr (.inr (some 0))]) (w' := (SH, dt)) rfl ?_
        refine go_callq PM93 PM137 (Q' := _) rfl rfl rfl rfl (sp_X5_farApart L xs sio (d + 0) dt hI   ) ?_
        rintro _ _ ⟨rfl, h7⟩
        refine ⟨rfl, ?_⟩
        rcases h7 with ⟨v_h7, rfl, h7r, h7⟩
        refine go_retq PM93 (k := 0) (r := some (.inl v_h7)) (w1 := (SH, dt)) rfl ?_
        exact ⟨rfl, ⟨_, rfl, trivial, trivial⟩⟩
      · refine go_swiq PM93 (v := 2) (p1 := 74) (lo := 0) (hi := 3) rfl c5 (by decide) rfl ?_
        refine go_toq PM93 (k := 1) (pc' := 75) (L' := [some (.inr (.inr (some 0))), some (.inl p1)]) (st' := [.inr (.inr (some 0))]) (w' := (SH, dt)) rfl ?_
        refine go_callq PM93 PM138 (Q' := _) rfl rfl rfl rfl (sp_X5_offHouses L xs sio (d + 0) dt hI   ) ?_
        rintro _ _ ⟨rfl, h8⟩
        refine ⟨rfl, ?_⟩
        rcases h8 with ⟨v_h8, rfl, h8r, h8⟩
        refine go_retq PM93 (k := 0) (r := some (.inl v_h8)) (w1 := (SH, dt)) rfl ?_
        exact ⟨rfl, ⟨_, rfl, trivial, trivial⟩⟩
      · refine go_swiq PM93 (v := 3) (p1 := 79) (lo := 0) (hi := 3) rfl c5 (by decide) rfl ?_
        refine go_toq PM93 (k := 1) (pc' := 80) (L' := [some (.inr (.inr (some 0))), some (.inl p1)]) (st' := [.inr (.inr (some 0))]) (w' := (SH, dt)) rfl ?_
        refine go_callq PM93 PM139 (Q' := _) rfl rfl rfl rfl (sp_X5_haveHouses L xs sio (d + 0) dt hI   ) ?_
        rintro _ _ ⟨rfl, h9⟩
        refine ⟨rfl, ?_⟩
        rcases h9 with ⟨v_h9, rfl, h9r, h9⟩
        refine go_retq PM93 (k := 0) (r := some (.inl v_h9)) (w1 := (SH, dt)) rfl ?_
        exact ⟨rfl, ⟨_, rfl, trivial, trivial⟩⟩
  · skip
    refine go_toq PM93 (k := 6) (pc' := 17) (L' := [some (.inr (.inr (some 0))), some (.inl p1)]) (st' := [.inl (p1 - 10), .inr (.inr (some 16))]) (w' := (SH, dt)) rfl ?_
    have r10 : 0 ≤ dt 16 3 ∧ dt 16 3 ≤ 20 := InvC_get hI 16 3 rfl rfl
    refine go_callq PM93 PM37 (Q' := _) rfl rfl rfl rfl (sp_X2_has_16 L xs sio (d + 3) dt hI  (p1 - 10) ⟨by omega, by omega⟩ ) ?_
    rintro _ _ ⟨rfl, h11⟩
    refine ⟨rfl, ?_⟩
    rcases h11 with ⟨rfl, h11⟩ | ⟨rfl, h11⟩
    · skip
      refine go_toq PM93 (k := 5) (pc' := 28) (L' := [some (.inr (.inr (some 0))), some (.inl p1)]) (st' := [.inl (p1 - 10), .inr (.inr (some 0))]) (w' := (SH, dt)) rfl ?_
      refine go_callq PM93 PM135 (Q' := _) rfl rfl rfl rfl (sp_X5_shareOf L xs sio (d + 1) dt hI  (p1 - 10) ⟨by omega, by omega⟩ ) ?_
      rintro _ _ ⟨rfl, h12⟩
      refine ⟨rfl, ?_⟩
      rcases h12 with ⟨v_h12, rfl, h12r, h12⟩
      refine go_retq PM93 (k := 0) (r := some (.inl v_h12)) (w1 := (SH, dt)) rfl ?_
      exact ⟨rfl, ⟨_, rfl, trivial, trivial⟩⟩
    · skip
      have r13 := wr_RR p1
      refine go_toq PM93 (k := 2) (pc' := 33) (L' := [some (.inr (.inr (some 0))), some (.inl p1)]) (st' := [.inl p1]) (w' := (SH, dt)) rfl ?_
      have e15 : wr p1 = p1 := wr_R ⟨by omega, by omega⟩
      by_cases c14 : wr p1 < 0 ∨ 3 < wr p1
      · refine go_swoq PM93 (p1 := 84) (lo := 0) (hi := 3) rfl rfl c14 ?_
        refine go_retq PM93 (k := 1) (r := some (.inl (-1))) (w1 := (SH, dt)) rfl ?_
        exact ⟨rfl, ⟨_, rfl, trivial, trivial⟩⟩
      · have c16 : wr p1 = 0 ∨ wr p1 = 1 ∨ wr p1 = 2 ∨ wr p1 = 3 := by omega
        rcases c16 with c16 | c16 | c16 | c16
        · refine go_swiq PM93 (v := 0) (p1 := 64) (lo := 0) (hi := 3) rfl c16 (by decide) rfl ?_
          refine go_toq PM93 (k := 1) (pc' := 65) (L' := [some (.inr (.inr (some 0))), some (.inl p1)]) (st' := [.inr (.inr (some 0))]) (w' := (SH, dt)) rfl ?_
          refine go_callq PM93 PM136 (Q' := _) rfl rfl rfl rfl (sp_X5_joined L xs sio (d + 1) dt hI   ) ?_
          rintro _ _ ⟨rfl, h17⟩
          refine ⟨rfl, ?_⟩
          rcases h17 with ⟨v_h17, rfl, h17r, h17⟩
          refine go_retq PM93 (k := 0) (r := some (.inl v_h17)) (w1 := (SH, dt)) rfl ?_
          exact ⟨rfl, ⟨_, rfl, trivial, trivial⟩⟩
        · refine go_swiq PM93 (v := 1) (p1 := 69) (lo := 0) (hi := 3) rfl c16 (by decide) rfl ?_
          refine go_toq PM93 (k := 1) (pc' := 70) (L' := [some (.inr (.inr (some 0))), some (.inl p1)]) (st' := [.inr (.inr (some 0))]) (w' := (SH, dt)) rfl ?_
          refine go_callq PM93 PM137 (Q' := _) rfl rfl rfl rfl (sp_X5_farApart L xs sio (d + 0) dt hI   ) ?_
          rintro _ _ ⟨rfl, h18⟩
          refine ⟨rfl, ?_⟩
          rcases h18 with ⟨v_h18, rfl, h18r, h18⟩
          refine go_retq PM93 (k := 0) (r := some (.inl v_h18)) (w1 := (SH, dt)) rfl ?_
          exact ⟨rfl, ⟨_, rfl, trivial, trivial⟩⟩
        · refine go_swiq PM93 (v := 2) (p1 := 74) (lo := 0) (hi := 3) rfl c16 (by decide) rfl ?_
          refine go_toq PM93 (k := 1) (pc' := 75) (L' := [some (.inr (.inr (some 0))), some (.inl p1)]) (st' := [.inr (.inr (some 0))]) (w' := (SH, dt)) rfl ?_
          refine go_callq PM93 PM138 (Q' := _) rfl rfl rfl rfl (sp_X5_offHouses L xs sio (d + 0) dt hI   ) ?_
          rintro _ _ ⟨rfl, h19⟩
          refine ⟨rfl, ?_⟩
          rcases h19 with ⟨v_h19, rfl, h19r, h19⟩
          refine go_retq PM93 (k := 0) (r := some (.inl v_h19)) (w1 := (SH, dt)) rfl ?_
          exact ⟨rfl, ⟨_, rfl, trivial, trivial⟩⟩
        · refine go_swiq PM93 (v := 3) (p1 := 79) (lo := 0) (hi := 3) rfl c16 (by decide) rfl ?_
          refine go_toq PM93 (k := 1) (pc' := 80) (L' := [some (.inr (.inr (some 0))), some (.inl p1)]) (st' := [.inr (.inr (some 0))]) (w' := (SH, dt)) rfl ?_
          refine go_callq PM93 PM139 (Q' := _) rfl rfl rfl rfl (sp_X5_haveHouses L xs sio (d + 0) dt hI   ) ?_
          rintro _ _ ⟨rfl, h20⟩
          refine ⟨rfl, ?_⟩
          rcases h20 with ⟨v_h20, rfl, h20r, h20⟩
          refine go_retq PM93 (k := 0) (r := some (.inl v_h20)) (w1 := (SH, dt)) rfl ?_
          exact ⟨rfl, ⟨_, rfl, trivial, trivial⟩⟩
theorem sp_X5_sorts (L : Nat) (xs : Nat → Int32) (sio : Option Nat) (d : Nat) (dt : Nat → Nat → Int) (hI : InvC dt)  (p1 : Int) (h_p1 : (-2147483648) ≤ p1 ∧ p1 ≤ 2147483647) (p2 : Int) (h_p2 : (-2147483648) ≤ p2 ∧ p2 ≤ 2147483647)  : GO (am_XX L xs sio) (d + 5) 94 0 [some (.inr (.inr (some 0))), some (.inl p1), some (.inl p2), none, none, none] [] (SH, dt) (fun r w2 => ∃ dt2 : Nat → Nat → Int, w2 = (SH, dt2) ∧ InvC dt2 ∧ Fr [75] dt dt2 ∧ ((∃ v : Int, r = some (.inl v) ∧ True ∧ True))) := by
  have hF : Fr [75] dt dt := Fr_refl
  refine go_toq PM94 (k := 3) (pc' := 3) (L' := [some (.inr (.inr (some 0))), some (.inl p1), some (.inl p2), none, none, none]) (st' := [.inl 1, .inl 0, .inl p1]) (w' := (SH, dt)) rfl ?_
  refine go_callq PM94 PM100 (Q' := _) rfl rfl rfl rfl (sp_X5_within L xs sio (d + 4) dt hI  p1 (by first | exact h_p1 | exact bnd h_p1 (by decide) (by decide) | exact ⟨by fail, by fail⟩) 0 ⟨by decide, by decide⟩ 1 ⟨by decide, by decide⟩ ) ?_
  rintro _ _ ⟨rfl, h1⟩
  refine ⟨rfl, ?_⟩
  rcases h1 with ⟨rfl, h1⟩ | ⟨rfl, h1⟩
  · skip
    refine go_toq PM94 (k := 4) (pc' := 13) (L' := [some (.inr (.inr (some 0))), some (.inl p1), some (.inl p2), none, none, none]) (st' := [.inl 8, .inl 0, .inl p2]) (w' := (SH, dt)) rfl ?_
    refine go_callq PM94 PM100 (Q' := _) rfl rfl rfl rfl (sp_X5_within L xs sio (d + 4) dt hI  p2 (by first | exact h_p2 | exact bnd h_p2 (by decide) (by decide) | exact ⟨by fail, by fail⟩) 0 ⟨by decide, by decide⟩ 8 ⟨by decide, by decide⟩ ) ?_
    rintro _ _ ⟨rfl, h2⟩
    refine ⟨rfl, ?_⟩
    rcases h2 with ⟨rfl, h2⟩ | ⟨rfl, h2⟩
    · skip
      refine go_toq PM94 (k := 5) (pc' := 26) (L' := [some (.inr (.inr (some 0))), some (.inl p1), some (.inl p2), some (.inl 0), some (.inl 0), none]) (st' := []) (w' := (SH, dt)) rfl ?_
      have loop172 : ∀ (k_ : Nat) (l26_3 : Int) (l26_4 : Int) (dt168 : Nat → Nat → Int) (hI169 : InvC dt168) (hF170 : Fr [75] dt dt168) (i171 : 0 ≤ l26_4 ∧ l26_4 ≤ 40), (41 - l26_4).toNat < k_ → GO (am_XX L xs sio) (d + 5) 94 26 [some (.inr (.inr (some 0))), some (.inl p1), some (.inl p2), some (.inl l26_3), some (.inl l26_4), none] [] (SH, dt168) (fun r w2 => ∃ dt2 : Nat → Nat → Int, w2 = (SH, dt2) ∧ InvC dt2 ∧ Fr [75] dt dt2 ∧ ((∃ v : Int, r = some (.inl v) ∧ True ∧ True))) := by
        intro k_
        induction k_ with
        | zero => intro l26_3 l26_4 dt168 hI169 hF170 i171 hm; exact absurd hm (Nat.not_lt_zero _)
        | succ k_ ih_loop172 =>
          intro l26_3 l26_4 dt168 hI169 hF170 i171 hm
          have r173 : 0 ≤ dt168 10 3 ∧ dt168 10 3 ≤ 40 := InvC_get hI169 10 3 rfl rfl
          refine go_ifq PM94 (k := 5) (p1 := 105) (p2 := 41) (L' := [some (.inr (.inr (some 0))), some (.inl p1), some (.inl p2), some (.inl l26_3), some (.inl l26_4), none]) (st' := []) (w' := (SH, dt168)) rfl (c_ge (a := l26_4) (b := dt168 10 3) (by first | exact bnd i171 (by decide) (by decide) | exact ⟨by fail, by fail⟩) (by first | exact bnd r173 (by decide) (by decide) | exact ⟨by fail, by fail⟩)) (fun c187 => ?_) (fun c187 => ?_)
          · skip
            refine go_retq PM94 (k := 1) (r := some (.inl l26_3)) (w1 := (SH, dt168)) rfl ?_
            exact ⟨dt168, rfl, hI169, hF170, ⟨_, rfl, trivial, trivial⟩⟩
          · skip
            refine go_toq PM94 (k := 5) (pc' := 51) (L' := [some (.inr (.inr (some 0))), some (.inl p1), some (.inl p2), some (.inl l26_3), some (.inl l26_4), none]) (st' := [.inl 3, .inl l26_4, .inr (.inr (some 10))]) (w' := (SH, dt168)) rfl ?_
            refine go_callq PM94 PM39 (Q' := _) rfl rfl rfl rfl (sp_X2_at_10 L xs sio (d + 3) dt168 hI169  l26_4 (by first | exact bnd i171 (by decide) (by decide) | exact bndd i171 c187 (by decide) (by decide) | exact ⟨by fail, by fail⟩) 3 ⟨by decide, by decide⟩ ) ?_
            rintro _ _ ⟨rfl, h188⟩
            refine ⟨rfl, ?_⟩
            rcases h188 with ⟨v_h188, rfl, h188r, h188⟩
            have j191 :  GO (am_XX L xs sio) (d + 5) 94 73 [some (.inr (.inr (some 0))), some (.inl p1), some (.inl p2), some (.inl l26_3), some (.inl l26_4), none] [.inl 0] (SH, dt168) (fun r w2 => ∃ dt2 : Nat → Nat → Int, w2 = (SH, dt2) ∧ InvC dt2 ∧ Fr [75] dt dt2 ∧ ((∃ v : Int, r = some (.inl v) ∧ True ∧ True))) := by
              skip
              refine go_toq PM94 (k := 5) (pc' := 26) (L' := [some (.inr (.inr (some 0))), some (.inl p1), some (.inl p2), some (.inl l26_3), some (.inl (l26_4 + 1)), some (.inl 0)]) (st' := []) (w' := (SH, dt168)) rfl ?_
              exact GO.le (ih_loop172 l26_3 (l26_4 + 1) dt168 hI169 hF170 (by first | exact bndp i171 (by decide) (by decide) | exact bnde i171 c187 (by decide) (by decide) | omega) (by omega)) ⟨.inl rfl, .inl rfl, .inl rfl, .inl rfl, .inl rfl, .inr ⟨rfl, trivial⟩, trivial⟩
            refine go_ifq PM94 (k := 1) (p1 := 72) (p2 := 58) (L' := [some (.inr (.inr (some 0))), some (.inl p1), some (.inl p2), some (.inl l26_3), some (.inl l26_4), none]) (st' := []) (w' := (SH, dt168)) rfl (c_ne (a := v_h188) (b := p1) (by first | exact bnd h188r (by decide) (by decide) | exact ⟨by fail, by fail⟩) (by first | exact bnd h_p1 (by decide) (by decide) | exact ⟨by fail, by fail⟩)) (fun c192 => ?_) (fun c192 => ?_)
            · skip
              replace c192 := hid c192
              refine go_toq PM94 (k := 1) (pc' := 73) (L' := [some (.inr (.inr (some 0))), some (.inl p1), some (.inl p2), some (.inl l26_3), some (.inl l26_4), none]) (st' := [.inl 0]) (w' := (SH, dt168)) rfl ?_
              exact GO.le (j191 ) ⟨.inl rfl, .inl rfl, .inl rfl, .inl rfl, .inl rfl, .inl rfl, trivial⟩
            · skip
              refine go_toq PM94 (k := 3) (pc' := 62) (L' := [some (.inr (.inr (some 0))), some (.inl p1), some (.inl p2), some (.inl l26_3), some (.inl l26_4), none]) (st' := [.inl 0, .inl l26_4, .inr (.inr (some 0))]) (w' := (SH, dt168)) rfl ?_
              refine go_callq PM94 PM131 (Q' := _) rfl rfl rfl rfl (sp_X5_lastRight L xs sio (d + 1) dt168 hI169  l26_4 (by first | exact bnd i171 (by decide) (by decide) | exact bndd i171 c187 (by decide) (by decide) | exact ⟨by fail, by fail⟩) 0 ⟨by decide, by decide⟩ ) ?_
              rintro _ _ ⟨rfl, h193⟩
              refine ⟨rfl, ?_⟩
              rcases h193 with ⟨rfl, h193⟩ | ⟨rfl, h193⟩ | ⟨rfl, h193⟩
              · skip
                refine go_toq PM94 (k := 2) (pc' := 73) (L' := [some (.inr (.inr (some 0))), some (.inl p1), some (.inl p2), some (.inl l26_3), some (.inl l26_4), none]) (st' := [.inl 0]) (w' := (SH, dt168)) rfl ?_
                exact GO.le (j191 ) ⟨.inl rfl, .inl rfl, .inl rfl, .inl rfl, .inl rfl, .inl rfl, trivial⟩
              · skip
                have j201 : ∀ (j201_a3 : Int) (j201_d : Nat → Nat → Int) (j201_hI : InvC j201_d) (j201_hF : Fr [75] dt j201_d) (i202 : l26_3 + 0 ≤ j201_a3 ∧ j201_a3 ≤ l26_3 + 1), GO (am_XX L xs sio) (d + 5) 94 99 [some (.inr (.inr (some 0))), some (.inl p1), some (.inl p2), some (.inl j201_a3), some (.inl l26_4), none] [] (SH, j201_d) (fun r w2 => ∃ dt2 : Nat → Nat → Int, w2 = (SH, dt2) ∧ InvC dt2 ∧ Fr [75] dt dt2 ∧ ((∃ v : Int, r = some (.inl v) ∧ True ∧ True))) := by
                  intro j201_a3 j201_d j201_hI j201_hF i202
                  refine go_toq PM94 (k := 2) (pc' := 26) (L' := [some (.inr (.inr (some 0))), some (.inl p1), some (.inl p2), some (.inl j201_a3), some (.inl (l26_4 + 1)), none]) (st' := []) (w' := (SH, j201_d)) rfl ?_
                  exact GO.le (ih_loop172 j201_a3 (l26_4 + 1) j201_d j201_hI j201_hF (by first | exact bndp i171 (by decide) (by decide) | exact bnde i171 c187 (by decide) (by decide) | omega) (by omega)) ⟨.inl rfl, .inl rfl, .inl rfl, .inl rfl, .inl rfl, .inl rfl, trivial⟩
                refine go_ifq PM94 (k := 8) (p1 := 96) (p2 := 86) (L' := [some (.inr (.inr (some 0))), some (.inl p1), some (.inl p2), some (.inl l26_3), some (.inl l26_4), some (.inl 1)]) (st' := []) (w' := (SH, dt168)) rfl (c_eq (a := p2) (b := 8) (by first | exact bnd h_p2 (by decide) (by decide) | exact ⟨by fail, by fail⟩) ⟨by decide, by decide⟩) (fun c203 => ?_) (fun c203 => ?_)
                · skip
                  refine go_toq PM94 (k := 1) (pc' := 99) (L' := [some (.inr (.inr (some 0))), some (.inl p1), some (.inl p2), some (.inl (l26_3 + 1)), some (.inl l26_4), some (.inl 1)]) (st' := []) (w' := (SH, dt168)) rfl ?_
                  exact GO.le (j201 (l26_3 + 1) dt168 hI169 hF170 (by omega)) ⟨.inl rfl, .inl rfl, .inl rfl, .inl rfl, .inl rfl, .inr ⟨rfl, trivial⟩, trivial⟩
                · skip
                  replace c203 := hid c203
                  refine go_toq PM94 (k := 2) (pc' := 89) (L' := [some (.inr (.inr (some 0))), some (.inl p1), some (.inl p2), some (.inl l26_3), some (.inl l26_4), some (.inl 1)]) (st' := [.inl l26_4, .inr (.inr (some 0))]) (w' := (SH, dt168)) rfl ?_
                  refine go_callq PM94 PM130 (Q' := _) rfl rfl rfl rfl (sp_X5_itsRule L xs sio (d + 0) dt168 hI169  l26_4 (by first | exact bnd i171 (by decide) (by decide) | exact bndd i171 c187 (by decide) (by decide) | exact ⟨by fail, by fail⟩) ) ?_
                  rintro _ _ ⟨dt205, rfl, hI206, hF207, h204⟩
                  refine ⟨rfl, ?_⟩
                  have hF208 : Fr [75] dt dt205 := Fr_tr hF170 hF207 (by decide)
                  rcases h204 with ⟨v_h204, rfl, h204r, h204⟩
                  refine go_ifq PM94 (k := 1) (p1 := 99) (p2 := 96) (L' := [some (.inr (.inr (some 0))), some (.inl p1), some (.inl p2), some (.inl l26_3), some (.inl l26_4), some (.inl 1)]) (st' := []) (w' := (SH, dt205)) rfl (c_ne (a := v_h204) (b := p2) (by first | exact bnd h204r (by decide) (by decide) | exact ⟨by fail, by fail⟩) (by first | exact bnd h_p2 (by decide) (by decide) | exact ⟨by fail, by fail⟩)) (fun c209 => ?_) (fun c209 => ?_)
                  · skip
                    replace c209 := hid c209
                    exact GO.le (j201 l26_3 dt205 hI206 hF208 (by omega)) ⟨.inl rfl, .inl rfl, .inl rfl, .inl rfl, .inl rfl, .inr ⟨rfl, trivial⟩, trivial⟩
                  · skip
                    refine go_toq PM94 (k := 1) (pc' := 99) (L' := [some (.inr (.inr (some 0))), some (.inl p1), some (.inl p2), some (.inl (l26_3 + 1)), some (.inl l26_4), some (.inl 1)]) (st' := []) (w' := (SH, dt205)) rfl ?_
                    exact GO.le (j201 (l26_3 + 1) dt205 hI206 hF208 (by omega)) ⟨.inl rfl, .inl rfl, .inl rfl, .inl rfl, .inl rfl, .inr ⟨rfl, trivial⟩, trivial⟩
              · skip
                refine go_toq PM94 (k := 2) (pc' := 73) (L' := [some (.inr (.inr (some 0))), some (.inl p1), some (.inl p2), some (.inl l26_3), some (.inl l26_4), none]) (st' := [.inl 0]) (w' := (SH, dt168)) rfl ?_
                exact GO.le (j191 ) ⟨.inl rfl, .inl rfl, .inl rfl, .inl rfl, .inl rfl, .inl rfl, trivial⟩
      exact GO.le (loop172 _ 0 0 dt hI hF ⟨by decide, by decide⟩ (Nat.lt_succ_self _)) ⟨.inl rfl, .inl rfl, .inl rfl, .inl rfl, .inl rfl, .inl rfl, trivial⟩
    · skip
      refine go_retq PM94 (k := 2) (r := some (.inl (-1))) (w1 := (SH, dt)) rfl ?_
      exact ⟨dt, rfl, hI, hF, ⟨_, rfl, trivial, trivial⟩⟩
  · skip
    refine go_retq PM94 (k := 2) (r := some (.inl (-1))) (w1 := (SH, dt)) rfl ?_
    exact ⟨dt, rfl, hI, hF, ⟨_, rfl, trivial, trivial⟩⟩
theorem sp_X5_curve (L : Nat) (xs : Nat → Int32) (sio : Option Nat) (d : Nat) (dt : Nat → Nat → Int) (hI : InvC dt)  (p1 : Int) (h_p1 : (-2147483648) ≤ p1 ∧ p1 ≤ 2147483647) (p2 : Int) (h_p2 : (-2147483648) ≤ p2 ∧ p2 ≤ 2147483647)  : GO (am_XX L xs sio) (d + 5) 95 0 [some (.inr (.inr (some 0))), some (.inl p1), some (.inl p2)] [] (SH, dt) (fun r w2 => ∃ dt2 : Nat → Nat → Int, w2 = (SH, dt2) ∧ InvC dt2 ∧ Fr [78] dt dt2 ∧ ((∃ v : Int, r = some (.inl v) ∧ ((-2147483648) ≤ v ∧ v ≤ 2147483647) ∧ True))) := by
  have hF : Fr [78] dt dt := Fr_refl
  refine go_toq PM95 (k := 3) (pc' := 4) (L' := [some (.inr (.inr (some 0))), some (.inl p1), some (.inl p2)]) (st' := [.inl 20, .inl (-1), .inl p1]) (w' := (SH, dt)) rfl ?_
  refine go_callq PM95 PM100 (Q' := _) rfl rfl rfl rfl (sp_X5_within L xs sio (d + 4) dt hI  p1 (by first | exact h_p1 | exact bnd h_p1 (by decide) (by decide) | exact ⟨by fail, by fail⟩) (-1) ⟨by decide, by decide⟩ 20 ⟨by decide, by decide⟩ ) ?_
  rintro _ _ ⟨rfl, h1⟩
  refine ⟨rfl, ?_⟩
  rcases h1 with ⟨rfl, h1⟩ | ⟨rfl, h1⟩
  · skip
    refine go_toq PM95 (k := 4) (pc' := 13) (L' := [some (.inr (.inr (some 0))), some (.inl p1), some (.inl p2)]) (st' := [.inl 1, .inl 0, .inl p2]) (w' := (SH, dt)) rfl ?_
    refine go_callq PM95 PM100 (Q' := _) rfl rfl rfl rfl (sp_X5_within L xs sio (d + 4) dt hI  p2 (by first | exact h_p2 | exact bnd h_p2 (by decide) (by decide) | exact ⟨by fail, by fail⟩) 0 ⟨by decide, by decide⟩ 1 ⟨by decide, by decide⟩ ) ?_
    rintro _ _ ⟨rfl, h2⟩
    refine ⟨rfl, ?_⟩
    rcases h2 with ⟨rfl, h2⟩ | ⟨rfl, h2⟩
    · skip
      refine go_ifq PM95 (k := 3) (p1 := 32) (p2 := 27) (L' := [some (.inr (.inr (some 0))), some (.inl p1), some (.inl p2)]) (st' := []) (w' := (SH, dt)) rfl (c_ne (a := p1) (b := (-1)) (by first | exact bnd h_p1 (by decide) (by decide) | exact ⟨by fail, by fail⟩) ⟨by decide, by decide⟩) (fun c3 => ?_) (fun c3 => ?_)
      · skip
        replace c3 := hid c3
        refine go_toq PM95 (k := 2) (pc' := 34) (L' := [some (.inr (.inr (some 0))), some (.inl p1), some (.inl p2)]) (st' := [.inl p1, .inr (.inr (some 0))]) (w' := (SH, dt)) rfl ?_
        refine go_callq PM95 PM140 (Q' := _) rfl rfl rfl rfl (sp_X5_countStep L xs sio (d + 1) dt hI  p1 (by first | exact h_p1 | exact bnd h_p1 (by decide) (by decide) | exact ⟨by fail, by fail⟩) ) ?_
        rintro _ _ ⟨dt5, rfl, hI6, hF7, h4⟩
        refine ⟨rfl, ?_⟩
        have hF8 : Fr [78] dt dt5 := Fr_tr hF hF7 (by decide)
        rcases h4 with ⟨rfl, h4⟩
        refine go_toq PM95 (k := 3) (pc' := 42) (L' := [some (.inr (.inr (some 0))), some (.inl p1), some (.inl p2)]) (st' := [.inl p2, .inr (.inr (some 78))]) (w' := (SH, dt5)) rfl ?_
        have r9 : (-2147483648) ≤ dt5 78 (p2).toNat ∧ dt5 78 (p2).toNat ≤ 2147483647 := InvC_get hI6 78 (p2).toNat rfl rfl
        refine go_smpq PM95 (L' := [some (.inr (.inr (some 0))), some (.inl p1), some (.inl p2)]) (st' := [.inl (dt5 78 (p2).toNat)]) (w' := (SH, dt5)) rfl rfl (s_iald (n := 4) (f := dt5 78) rfl (by first | exact bndx h_p2 (by decide) (by decide) | exact ⟨by omega, by omega⟩)) ?_
        refine go_retq PM95 (k := 0) (r := some (.inl (dt5 78 (p2).toNat))) (w1 := (SH, dt5)) rfl ?_
        exact ⟨dt5, rfl, hI6, hF8, ⟨_, rfl, (by first | exact bnd r9 (by decide) (by decide) | exact ⟨by fail, by fail⟩), trivial⟩⟩
      · skip
        refine go_toq PM95 (k := 1) (pc' := 28) (L' := [some (.inr (.inr (some 0))), some (.inl p1), some (.inl p2)]) (st' := [.inr (.inr (some 0))]) (w' := (SH, dt)) rfl ?_
        refine go_callq PM95 PM141 (Q' := _) rfl rfl rfl rfl (sp_X5_turn L xs sio (d + 0) dt hI   ) ?_
        rintro _ _ ⟨dt11, rfl, hI12, hF13, h10⟩
        refine ⟨rfl, ?_⟩
        have hF14 : Fr [78] dt dt11 := Fr_tr hF hF13 (by decide)
        rcases h10 with ⟨v_h10, rfl, h10r, h10⟩
        refine go_retq PM95 (k := 0) (r := some (.inl v_h10)) (w1 := (SH, dt11)) rfl ?_
        exact ⟨dt11, rfl, hI12, hF14, ⟨_, rfl, (by first | exact bnd h10r (by decide) (by decide) | exact ⟨by fail, by fail⟩), trivial⟩⟩
    · skip
      refine go_retq PM95 (k := 2) (r := some (.inl (-2))) (w1 := (SH, dt)) rfl ?_
      exact ⟨dt, rfl, hI, hF, ⟨_, rfl, ⟨by decide, by decide⟩, trivial⟩⟩
  · skip
    refine go_retq PM95 (k := 2) (r := some (.inl (-2))) (w1 := (SH, dt)) rfl ?_
    exact ⟨dt, rfl, hI, hF, ⟨_, rfl, ⟨by decide, by decide⟩, trivial⟩⟩
theorem sp_X5_score (L : Nat) (xs : Nat → Int32) (sio : Option Nat) (d : Nat) (dt : Nat → Nat → Int) (hI : InvC dt)  (p1 : Int) (h_p1 : (-2147483648) ≤ p1 ∧ p1 ≤ 2147483647)  : GO (am_XX L xs sio) (d + 6) 96 0 [some (.inr (.inr (some 0))), some (.inl p1), none, none, none, none] [] (SH, dt) (fun r w2 => ∃ dt2 : Nat → Nat → Int, w2 = (SH, dt2) ∧ InvC dt2 ∧ Fr [71, 72, 73, 74] dt dt2 ∧ ((∃ v : Int, r = some (.inl v) ∧ True ∧ True))) := by
  have hF : Fr [71, 72, 73, 74] dt dt := Fr_refl
  refine go_toq PM96 (k := 3) (pc' := 3) (L' := [some (.inr (.inr (some 0))), some (.inl p1), none, none, none, none]) (st' := [.inl 3, .inl (-1), .inl p1]) (w' := (SH, dt)) rfl ?_
  refine go_callq PM96 PM100 (Q' := _) rfl rfl rfl rfl (sp_X5_within L xs sio (d + 5) dt hI  p1 (by first | exact h_p1 | exact bnd h_p1 (by decide) (by decide) | exact ⟨by fail, by fail⟩) (-1) ⟨by decide, by decide⟩ 3 ⟨by decide, by decide⟩ ) ?_
  rintro _ _ ⟨rfl, h1⟩
  refine ⟨rfl, ?_⟩
  rcases h1 with ⟨rfl, h1⟩ | ⟨rfl, h1⟩
  · skip
    refine go_ifq PM96 (k := 3) (p1 := 24) (p2 := 18) (L' := [some (.inr (.inr (some 0))), some (.inl p1), none, none, none, none]) (st' := []) (w' := (SH, dt)) rfl (c_eq (a := p1) (b := (-1)) (by first | exact bnd h_p1 (by decide) (by decide) | exact ⟨by fail, by fail⟩) ⟨by decide, by decide⟩) (fun c2 => ?_) (fun c2 => ?_)
    · skip
      refine go_toq PM96 (k := 4) (pc' := 28) (L' := [some (.inr (.inr (some 0))), some (.inl p1), some (.inl 0), none, none, none]) (st' := [.inl 0, .inr (.inr (some 0))]) (w' := (SH, dt)) rfl ?_
      refine go_callq PM96 PM142 (Q' := _) rfl rfl rfl rfl (sp_X5_scoreOf L xs sio (d + 0) dt hI  0 ⟨by decide, by decide⟩ ) ?_
      rintro _ _ ⟨dt4, rfl, hI5, hF6, h3⟩
      refine ⟨rfl, ?_⟩
      have hF7 : Fr [71, 72, 73, 74] dt dt4 := Fr_tr hF hF6 (by decide)
      rcases h3 with ⟨v_h3, rfl, h3r, h3⟩
      refine go_toq PM96 (k := 3) (pc' := 35) (L' := [some (.inr (.inr (some 0))), some (.inl p1), some (.inl 0), some (.inl v_h3), some (.inl 1), none]) (st' := []) (w' := (SH, dt4)) rfl ?_
      have loop57 : ∀ (k_ : Nat) (l35_2 : Int) (l35_3 : Int) (l35_4 : Int) (dt52 : Nat → Nat → Int) (hI53 : InvC dt52) (hF54 : Fr [71, 72, 73, 74] dt dt52) (i55 : 0 ≤ l35_2 ∧ l35_2 ≤ 3) (i56 : 1 ≤ l35_4 ∧ l35_4 ≤ 4), (5 - l35_4).toNat < k_ → GO (am_XX L xs sio) (d + 6) 96 35 [some (.inr (.inr (some 0))), none, some (.inl l35_2), some (.inl l35_3), some (.inl l35_4), none] [] (SH, dt52) (fun r w2 => ∃ dt2 : Nat → Nat → Int, w2 = (SH, dt2) ∧ InvC dt2 ∧ Fr [71, 72, 73, 74] dt dt2 ∧ ((∃ v : Int, r = some (.inl v) ∧ True ∧ True))) := by
        intro k_
        induction k_ with
        | zero => intro l35_2 l35_3 l35_4 dt52 hI53 hF54 i55 i56 hm; exact absurd hm (Nat.not_lt_zero _)
        | succ k_ ih_loop57 =>
          intro l35_2 l35_3 l35_4 dt52 hI53 hF54 i55 i56 hm
          refine go_ifq PM96 (k := 2) (p1 := 67) (p2 := 41) (L' := [some (.inr (.inr (some 0))), none, some (.inl l35_2), some (.inl l35_3), some (.inl l35_4), none]) (st' := []) (w' := (SH, dt52)) rfl (c_ge (a := l35_4) (b := 4) (by first | exact bnd i56 (by decide) (by decide) | exact ⟨by fail, by fail⟩) ⟨by decide, by decide⟩) (fun c68 => ?_) (fun c68 => ?_)
          · skip
            refine go_retq PM96 (k := 1) (r := some (.inl l35_2)) (w1 := (SH, dt52)) rfl ?_
            exact ⟨dt52, rfl, hI53, hF54, ⟨_, rfl, trivial, trivial⟩⟩
          · skip
            refine go_toq PM96 (k := 2) (pc' := 44) (L' := [some (.inr (.inr (some 0))), none, some (.inl l35_2), some (.inl l35_3), some (.inl l35_4), none]) (st' := [.inl l35_4, .inr (.inr (some 0))]) (w' := (SH, dt52)) rfl ?_
            refine go_callq PM96 PM142 (Q' := _) rfl rfl rfl rfl (sp_X5_scoreOf L xs sio (d + 0) dt52 hI53  l35_4 (by first | exact bnd i56 (by decide) (by decide) | exact bndd i56 c68 (by decide) (by decide) | exact ⟨by fail, by fail⟩) ) ?_
            rintro _ _ ⟨dt70, rfl, hI71, hF72, h69⟩
            refine ⟨rfl, ?_⟩
            have hF73 : Fr [71, 72, 73, 74] dt dt70 := Fr_tr hF54 hF72 (by decide)
            rcases h69 with ⟨v_h69, rfl, h69r, h69⟩
            have j77 : ∀ (j77_a2 : Int) (j77_a3 : Int) (i78 : 0 ≤ j77_a2 ∧ j77_a2 ≤ 3), GO (am_XX L xs sio) (d + 6) 96 61 [some (.inr (.inr (some 0))), none, some (.inl j77_a2), some (.inl j77_a3), some (.inl l35_4), none] [] (SH, dt70) (fun r w2 => ∃ dt2 : Nat → Nat → Int, w2 = (SH, dt2) ∧ InvC dt2 ∧ Fr [71, 72, 73, 74] dt dt2 ∧ ((∃ v : Int, r = some (.inl v) ∧ True ∧ True))) := by
              intro j77_a2 j77_a3 i78
              refine go_toq PM96 (k := 2) (pc' := 35) (L' := [some (.inr (.inr (some 0))), none, some (.inl j77_a2), some (.inl j77_a3), some (.inl (l35_4 + 1)), none]) (st' := []) (w' := (SH, dt70)) rfl ?_
              exact GO.le (ih_loop57 j77_a2 j77_a3 (l35_4 + 1) dt70 hI71 hF73 (by first | exact bnd i78 (by decide) (by decide) | fail) (by first | exact bndp i56 (by decide) (by decide) | exact bnde i56 c68 (by decide) (by decide) | fail) (by omega)) ⟨.inl rfl, .inl rfl, .inl rfl, .inl rfl, .inl rfl, .inl rfl, trivial⟩
            have r80 := wr_RR v_h69
            have r81 := wr_RR l35_3
            refine go_ifq PM96 (k := 3) (p1 := 61) (p2 := 55) (L' := [some (.inr (.inr (some 0))), none, some (.inl l35_2), some (.inl l35_3), some (.inl l35_4), some (.inl v_h69)]) (st' := []) (w' := (SH, dt70)) rfl (u_le (a := wr v_h69) (b := wr l35_3)) (fun c79 => ?_) (fun c79 => ?_)
            · skip
              exact GO.le (j77 l35_2 l35_3 (by first | exact bnd i55 (by decide) (by decide) | fail)) ⟨.inl rfl, .inl rfl, .inl rfl, .inl rfl, .inl rfl, .inr ⟨rfl, trivial⟩, trivial⟩
            · skip
              refine go_toq PM96 (k := 4) (pc' := 61) (L' := [some (.inr (.inr (some 0))), none, some (.inl l35_4), some (.inl v_h69), some (.inl l35_4), some (.inl v_h69)]) (st' := []) (w' := (SH, dt70)) rfl ?_
              exact GO.le (j77 l35_4 v_h69 (by first | exact bnd i56 (by decide) (by decide) | omega)) ⟨.inl rfl, .inl rfl, .inl rfl, .inl rfl, .inl rfl, .inr ⟨rfl, trivial⟩, trivial⟩
      exact GO.le (loop57 _ 0 v_h3 1 dt4 hI5 hF7 ⟨by decide, by decide⟩ ⟨by decide, by decide⟩ (Nat.lt_succ_self _)) ⟨.inl rfl, .inr ⟨rfl, trivial⟩, .inl rfl, .inl rfl, .inl rfl, .inl rfl, trivial⟩
    · skip
      replace c2 := hid c2
      refine go_toq PM96 (k := 2) (pc' := 20) (L' := [some (.inr (.inr (some 0))), some (.inl p1), none, none, none, none]) (st' := [.inl p1, .inr (.inr (some 0))]) (w' := (SH, dt)) rfl ?_
      refine go_callq PM96 PM142 (Q' := _) rfl rfl rfl rfl (sp_X5_scoreOf L xs sio (d + 0) dt hI  p1 (by first | exact h_p1 | exact bnd h_p1 (by decide) (by decide) | exact ⟨by fail, by fail⟩) ) ?_
      rintro _ _ ⟨dt83, rfl, hI84, hF85, h82⟩
      refine ⟨rfl, ?_⟩
      have hF86 : Fr [71, 72, 73, 74] dt dt83 := Fr_tr hF hF85 (by decide)
      rcases h82 with ⟨v_h82, rfl, h82r, h82⟩
      refine go_retq PM96 (k := 0) (r := some (.inl v_h82)) (w1 := (SH, dt83)) rfl ?_
      exact ⟨dt83, rfl, hI84, hF86, ⟨_, rfl, trivial, trivial⟩⟩
  · skip
    refine go_retq PM96 (k := 2) (r := some (.inl (-1000000))) (w1 := (SH, dt)) rfl ?_
    exact ⟨dt, rfl, hI, hF, ⟨_, rfl, trivial, trivial⟩⟩
theorem sp_X5_next (L : Nat) (xs : Nat → Int32) (sio : Option Nat) (d : Nat) (dt : Nat → Nat → Int) (hI : InvC dt)  (p1 : Int) (h_p1 : (-2147483648) ≤ p1 ∧ p1 ≤ 2147483647) (p2 : Int) (h_p2 : (-2147483648) ≤ p2 ∧ p2 ≤ 2147483647) (p3 : Int) (h_p3 : (-2147483648) ≤ p3 ∧ p3 ≤ 2147483647) (p4 : Int) (h_p4 : (-2147483648) ≤ p4 ∧ p4 ≤ 2147483647) (p5 : Int) (h_p5 : (-2147483648) ≤ p5 ∧ p5 ≤ 2147483647)  : GO (am_XX L xs sio) (d + 6) 97 0 [some (.inr (.inr (some 0))), some (.inl p1), some (.inl p2), some (.inl p3), some (.inl p4), some (.inl p5), none, none, none, none] [] (SH, dt) (fun r w2 => ∃ dt2 : Nat → Nat → Int, w2 = (SH, dt2) ∧ InvC dt2 ∧ Fr [71, 72, 73, 74, 77] dt dt2 ∧ ((∃ v : Int, r = some (.inl v) ∧ True ∧ True))) := by
  have hF : Fr [71, 72, 73, 74, 77] dt dt := Fr_refl
  refine go_toq PM97 (k := 1) (pc' := 1) (L' := [some (.inr (.inr (some 0))), some (.inl p1), some (.inl p2), some (.inl p3), some (.inl p4), some (.inl p5), none, none, none, none]) (st' := [.inl p1]) (w' := (SH, dt)) rfl ?_
  refine go_callq PM97 PM103 (Q' := _) rfl rfl rfl rfl (sp_X5_isLaw L xs sio (d + 4) dt hI  p1 (by first | exact h_p1 | exact bnd h_p1 (by decide) (by decide) | exact ⟨by fail, by fail⟩) ) ?_
  rintro _ _ ⟨rfl, h1⟩
  refine ⟨rfl, ?_⟩
  rcases h1 with ⟨rfl, h1⟩ | ⟨rfl, h1⟩
  · skip
    refine go_toq PM97 (k := 2) (pc' := 8) (L' := [some (.inr (.inr (some 0))), some (.inl p1), some (.inl p2), some (.inl p3), some (.inl p4), some (.inl p5), none, none, none, none]) (st' := [.inl p2]) (w' := (SH, dt)) rfl ?_
    refine go_callq PM97 PM103 (Q' := _) rfl rfl rfl rfl (sp_X5_isLaw L xs sio (d + 4) dt hI  p2 (by first | exact h_p2 | exact bnd h_p2 (by decide) (by decide) | exact ⟨by fail, by fail⟩) ) ?_
    rintro _ _ ⟨rfl, h2⟩
    refine ⟨rfl, ?_⟩
    rcases h2 with ⟨rfl, h2⟩ | ⟨rfl, h2⟩
    · skip
      refine go_toq PM97 (k := 5) (pc' := 22) (L' := [some (.inr (.inr (some 0))), some (.inl p1), some (.inl p2), some (.inl p3), some (.inl p4), some (.inl p5), none, none, none, none]) (st' := [.inl p3, .inr (.inr (some 10))]) (w' := (SH, dt)) rfl ?_
      have r3 : 0 ≤ dt 10 3 ∧ dt 10 3 ≤ 40 := InvC_get hI 10 3 rfl rfl
      refine go_callq PM97 PM37 (Q' := _) rfl rfl rfl rfl (sp_X2_has_10 L xs sio (d + 5) dt hI  p3 (by first | exact h_p3 | exact bnd h_p3 (by decide) (by decide) | exact ⟨by fail, by fail⟩) ) ?_
      rintro _ _ ⟨rfl, h4⟩
      refine ⟨rfl, ?_⟩
      rcases h4 with ⟨rfl, h4⟩ | ⟨rfl, h4⟩
      · skip
        refine go_toq PM97 (k := 4) (pc' := 32) (L' := [some (.inr (.inr (some 0))), some (.inl p1), some (.inl p2), some (.inl p3), some (.inl p4), some (.inl p5), none, none, none, none]) (st' := [.inl 3, .inl 0, .inl p4]) (w' := (SH, dt)) rfl ?_
        refine go_callq PM97 PM100 (Q' := _) rfl rfl rfl rfl (sp_X5_within L xs sio (d + 5) dt hI  p4 (by first | exact h_p4 | exact bnd h_p4 (by decide) (by decide) | exact ⟨by fail, by fail⟩) 0 ⟨by decide, by decide⟩ 3 ⟨by decide, by decide⟩ ) ?_
        rintro _ _ ⟨rfl, h5⟩
        refine ⟨rfl, ?_⟩
        rcases h5 with ⟨rfl, h5⟩ | ⟨rfl, h5⟩
        · skip
          refine go_toq PM97 (k := 4) (pc' := 42) (L' := [some (.inr (.inr (some 0))), some (.inl p1), some (.inl p2), some (.inl p3), some (.inl p4), some (.inl p5), none, none, none, none]) (st' := [.inl 1, .inl 0, .inl p5]) (w' := (SH, dt)) rfl ?_
          refine go_callq PM97 PM100 (Q' := _) rfl rfl rfl rfl (sp_X5_within L xs sio (d + 5) dt hI  p5 (by first | exact h_p5 | exact bnd h_p5 (by decide) (by decide) | exact ⟨by fail, by fail⟩) 0 ⟨by decide, by decide⟩ 1 ⟨by decide, by decide⟩ ) ?_
          rintro _ _ ⟨rfl, h6⟩
          refine ⟨rfl, ?_⟩
          rcases h6 with ⟨rfl, h6⟩ | ⟨rfl, h6⟩
          · skip
            refine go_toq PM97 (k := 7) (pc' := 59) (L' := [some (.inr (.inr (some 0))), some (.inl p1), some (.inl p2), some (.inl p3), some (.inl p4), some (.inl p5), some (.inl (-1)), some (.inl (-1)), some (.inl 0), none]) (st' := []) (w' := (SH, dt)) rfl ?_
            have loop216 : ∀ (k_ : Nat) (l59_6 : Int) (l59_7 : Int) (l59_8 : Int) (dt211 : Nat → Nat → Int) (hI212 : InvC dt211) (hF213 : Fr [71, 72, 73, 74, 77] dt dt211) (i214 : (-1) ≤ l59_6 ∧ l59_6 ≤ 11) (i215 : 0 ≤ l59_8 ∧ l59_8 ≤ 12), (13 - l59_8).toNat < k_ → GO (am_XX L xs sio) (d + 6) 97 59 [some (.inr (.inr (some 0))), some (.inl p1), some (.inl p2), some (.inl p3), some (.inl p4), some (.inl p5), some (.inl l59_6), some (.inl l59_7), some (.inl l59_8), none] [] (SH, dt211) (fun r w2 => ∃ dt2 : Nat → Nat → Int, w2 = (SH, dt2) ∧ InvC dt2 ∧ Fr [71, 72, 73, 74, 77] dt dt2 ∧ ((∃ v : Int, r = some (.inl v) ∧ True ∧ True))) := by
              intro k_
              induction k_ with
              | zero => intro l59_6 l59_7 l59_8 dt211 hI212 hF213 i214 i215 hm; exact absurd hm (Nat.not_lt_zero _)
              | succ k_ ih_loop216 =>
                intro l59_6 l59_7 l59_8 dt211 hI212 hF213 i214 i215 hm
                have r217 : 0 ≤ dt211 7 3 ∧ dt211 7 3 ≤ 12 := InvC_get hI212 7 3 rfl rfl
                refine go_ifq PM97 (k := 5) (p1 := 108) (p2 := 74) (L' := [some (.inr (.inr (some 0))), some (.inl p1), some (.inl p2), some (.inl p3), some (.inl p4), some (.inl p5), some (.inl l59_6), some (.inl l59_7), some (.inl l59_8), none]) (st' := []) (w' := (SH, dt211)) rfl (c_ge (a := l59_8) (b := dt211 7 3) (by first | exact bnd i215 (by decide) (by decide) | exact ⟨by fail, by fail⟩) (by first | exact bnd r217 (by decide) (by decide) | exact ⟨by fail, by fail⟩)) (fun c228 => ?_) (fun c228 => ?_)
                · skip
                  have j230 : ∀ (j230_s0 : Int), GO (am_XX L xs sio) (d + 6) 97 120 [some (.inr (.inr (some 0))), none, none, none, none, none, none, none, none, none] [.inl j230_s0] (SH, dt211) (fun r w2 => ∃ dt2 : Nat → Nat → Int, w2 = (SH, dt2) ∧ InvC dt2 ∧ Fr [71, 72, 73, 74, 77] dt dt2 ∧ ((∃ v : Int, r = some (.inl v) ∧ True ∧ True))) := by
                    intro j230_s0
                    refine go_retq PM97 (k := 0) (r := some (.inl j230_s0)) (w1 := (SH, dt211)) rfl ?_
                    exact ⟨dt211, rfl, hI212, hF213, ⟨_, rfl, trivial, trivial⟩⟩
                  refine go_ifq PM97 (k := 1) (p1 := 118) (p2 := 113) (L' := [some (.inr (.inr (some 0))), some (.inl p1), some (.inl p2), some (.inl p3), some (.inl p4), some (.inl p5), some (.inl l59_6), some (.inl l59_7), some (.inl l59_8), none]) (st' := []) (w' := (SH, dt211)) rfl (z_ne (a := p5) (by first | exact bnd h_p5 (by decide) (by decide) | exact ⟨by fail, by fail⟩)) (fun c231 => ?_) (fun c231 => ?_)
                  · skip
                    replace c231 := hid c231
                    refine go_toq PM97 (k := 1) (pc' := 120) (L' := [some (.inr (.inr (some 0))), some (.inl p1), some (.inl p2), some (.inl p3), some (.inl p4), some (.inl p5), some (.inl l59_6), some (.inl l59_7), some (.inl l59_8), none]) (st' := [.inl l59_7]) (w' := (SH, dt211)) rfl ?_
                    exact GO.le (j230 l59_7) ⟨.inl rfl, .inr ⟨rfl, trivial⟩, .inr ⟨rfl, trivial⟩, .inr ⟨rfl, trivial⟩, .inr ⟨rfl, trivial⟩, .inr ⟨rfl, trivial⟩, .inr ⟨rfl, trivial⟩, .inr ⟨rfl, trivial⟩, .inr ⟨rfl, trivial⟩, .inl rfl, trivial⟩
                  · skip
                    refine go_toq PM97 (k := 2) (pc' := 120) (L' := [some (.inr (.inr (some 0))), some (.inl p1), some (.inl p2), some (.inl p3), some (.inl p4), some (.inl p5), some (.inl l59_6), some (.inl l59_7), some (.inl l59_8), none]) (st' := [.inl l59_6]) (w' := (SH, dt211)) rfl ?_
                    exact GO.le (j230 l59_6) ⟨.inl rfl, .inr ⟨rfl, trivial⟩, .inr ⟨rfl, trivial⟩, .inr ⟨rfl, trivial⟩, .inr ⟨rfl, trivial⟩, .inr ⟨rfl, trivial⟩, .inr ⟨rfl, trivial⟩, .inr ⟨rfl, trivial⟩, .inr ⟨rfl, trivial⟩, .inl rfl, trivial⟩
                · skip
                  refine go_toq PM97 (k := 6) (pc' := 82) (L' := [some (.inr (.inr (some 0))), some (.inl p1), some (.inl p2), some (.inl p3), some (.inl p4), some (.inl p5), some (.inl l59_6), some (.inl l59_7), some (.inl l59_8), none]) (st' := [.inl p4, .inl l59_8, .inl p3, .inl p2, .inl p1, .inr (.inr (some 0))]) (w' := (SH, dt211)) rfl ?_
                  refine go_callq PM97 PM144 (Q' := _) rfl rfl rfl rfl (sp_X5_farApartBy L xs sio (d + 0) dt211 hI212  p1 (by first | exact h_p1 | exact bnd h_p1 (by decide) (by decide) | exact ⟨by fail, by fail⟩) p2 (by first | exact h_p2 | exact bnd h_p2 (by decide) (by decide) | exact ⟨by fail, by fail⟩) p3 (by first | exact h_p3 | exact bnd h_p3 (by decide) (by decide) | exact ⟨by fail, by fail⟩) l59_8 (by first | exact bnd i215 (by decide) (by decide) | exact bndd i215 c228 (by decide) (by decide) | exact ⟨by fail, by fail⟩) p4 (by first | exact h_p4 | exact bnd h_p4 (by decide) (by decide) | exact ⟨by fail, by fail⟩) ) ?_
                  rintro _ _ ⟨dt233, rfl, hI234, hF235, h232⟩
                  refine ⟨rfl, ?_⟩
                  have hF236 : Fr [71, 72, 73, 74, 77] dt dt233 := Fr_tr hF213 hF235 (by decide)
                  rcases h232 with ⟨v_h232, rfl, h232r, h232⟩
                  have j240 : ∀ (j240_a6 : Int) (j240_a7 : Int) (i241 : (-1) ≤ j240_a6 ∧ j240_a6 ≤ 11), GO (am_XX L xs sio) (d + 6) 97 102 [some (.inr (.inr (some 0))), some (.inl p1), some (.inl p2), some (.inl p3), some (.inl p4), some (.inl p5), some (.inl j240_a6), some (.inl j240_a7), some (.inl l59_8), none] [] (SH, dt233) (fun r w2 => ∃ dt2 : Nat → Nat → Int, w2 = (SH, dt2) ∧ InvC dt2 ∧ Fr [71, 72, 73, 74, 77] dt dt2 ∧ ((∃ v : Int, r = some (.inl v) ∧ True ∧ True))) := by
                    intro j240_a6 j240_a7 i241
                    refine go_toq PM97 (k := 2) (pc' := 59) (L' := [some (.inr (.inr (some 0))), some (.inl p1), some (.inl p2), some (.inl p3), some (.inl p4), some (.inl p5), some (.inl j240_a6), some (.inl j240_a7), some (.inl (l59_8 + 1)), none]) (st' := []) (w' := (SH, dt233)) rfl ?_
                    exact GO.le (ih_loop216 j240_a6 j240_a7 (l59_8 + 1) dt233 hI234 hF236 (by first | exact bnd i241 (by decide) (by decide) | fail) (by first | exact bndp i215 (by decide) (by decide) | exact bnde i215 c228 (by decide) (by decide) | omega) (by omega)) ⟨.inl rfl, .inl rfl, .inl rfl, .inl rfl, .inl rfl, .inl rfl, .inl rfl, .inl rfl, .inl rfl, .inl rfl, trivial⟩
                  have r243 := wr_RR v_h232
                  have r244 := wr_RR l59_7
                  refine go_ifq PM97 (k := 3) (p1 := 102) (p2 := 94) (L' := [some (.inr (.inr (some 0))), some (.inl p1), some (.inl p2), some (.inl p3), some (.inl p4), some (.inl p5), some (.inl l59_6), some (.inl l59_7), some (.inl l59_8), some (.inl v_h232)]) (st' := []) (w' := (SH, dt233)) rfl (u_le (a := wr v_h232) (b := wr l59_7)) (fun c242 => ?_) (fun c242 => ?_)
                  · skip
                    exact GO.le (j240 l59_6 l59_7 (by first | exact bnd i214 (by decide) (by decide) | fail)) ⟨.inl rfl, .inl rfl, .inl rfl, .inl rfl, .inl rfl, .inl rfl, .inl rfl, .inl rfl, .inl rfl, .inr ⟨rfl, trivial⟩, trivial⟩
                  · skip
                    refine go_toq PM97 (k := 4) (pc' := 102) (L' := [some (.inr (.inr (some 0))), some (.inl p1), some (.inl p2), some (.inl p3), some (.inl p4), some (.inl p5), some (.inl l59_8), some (.inl v_h232), some (.inl l59_8), some (.inl v_h232)]) (st' := []) (w' := (SH, dt233)) rfl ?_
                    exact GO.le (j240 l59_8 v_h232 (by first | exact bnd i215 (by decide) (by decide) | omega)) ⟨.inl rfl, .inl rfl, .inl rfl, .inl rfl, .inl rfl, .inl rfl, .inl rfl, .inl rfl, .inl rfl, .inr ⟨rfl, trivial⟩, trivial⟩
            exact GO.le (loop216 _ (-1) (-1) 0 dt hI hF ⟨by decide, by decide⟩ ⟨by decide, by decide⟩ (Nat.lt_succ_self _)) ⟨.inl rfl, .inl rfl, .inl rfl, .inl rfl, .inl rfl, .inl rfl, .inl rfl, .inl rfl, .inl rfl, .inl rfl, trivial⟩
          · skip
            refine go_retq PM97 (k := 2) (r := some (.inl (-1))) (w1 := (SH, dt)) rfl ?_
            exact ⟨dt, rfl, hI, hF, ⟨_, rfl, trivial, trivial⟩⟩
        · skip
          refine go_retq PM97 (k := 2) (r := some (.inl (-1))) (w1 := (SH, dt)) rfl ?_
          exact ⟨dt, rfl, hI, hF, ⟨_, rfl, trivial, trivial⟩⟩
      · skip
        refine go_retq PM97 (k := 2) (r := some (.inl (-1))) (w1 := (SH, dt)) rfl ?_
        exact ⟨dt, rfl, hI, hF, ⟨_, rfl, trivial, trivial⟩⟩
    · skip
      refine go_retq PM97 (k := 2) (r := some (.inl (-1))) (w1 := (SH, dt)) rfl ?_
      exact ⟨dt, rfl, hI, hF, ⟨_, rfl, trivial, trivial⟩⟩
  · skip
    refine go_retq PM97 (k := 2) (r := some (.inl (-1))) (w1 := (SH, dt)) rfl ?_
    exact ⟨dt, rfl, hI, hF, ⟨_, rfl, trivial, trivial⟩⟩
