set_option maxHeartbeats 8000000 in
set_option maxRecDepth 20000 in
theorem sp_X6_text (L : Nat) (xs : Nat → Int32) (sio : Option Nat) (d : Nat) (dt : Nat → Nat → Int) (hI : InvC dt) (hM : MW (dt 80))  (p1 : Int) (h_p1 : (-2147483648) ≤ p1 ∧ p1 ≤ 2147483647) (p2 : Int) (h_p2 : (-2147483648) ≤ p2 ∧ p2 ≤ 2147483647)  : GO (am_XX L xs sio) (d + 38) 174 0 [some (.inr (.inr (some 79))), some (.inl p1), some (.inl p2), none] [] (SH, dt) (fun r w2 => ∃ dt2 : Nat → Nat → Int, w2 = (SH, dt2) ∧ InvC dt2 ∧ Fr [79, 80, 82, 83, 84] dt dt2 ∧ ((∃ v : Int, r = some (.inl v) ∧ ((-1) ≤ v ∧ v ≤ 24) ∧ (dt2 79 12 = 0) ∧ (dt2 79 2 = dt 79 2) ∧ (MW (dt2 80)) ∧ (dt2 80 0 = dt 80 0) ∧ (dt2 80 1 = dt 80 1) ∧ (dt2 80 2 = dt 80 2) ∧ (dt2 80 3 = dt 80 3) ∧ (dt2 80 4 = dt 80 4) ∧ (dt2 80 5 = dt 80 5)))) := by
  have hF : Fr [79, 80, 82, 83, 84] dt dt := Fr_refl
  have r1 : 0 ≤ dt 79 15 ∧ dt 79 15 ≤ 500 := InvC_get hI 79 15 rfl rfl
  have r2 : 0 ≤ dt 79 11 ∧ dt 79 11 ≤ 510 := InvC_get hI 79 11 rfl rfl
  have r3 : 0 ≤ dt 79 10 ∧ dt 79 10 ≤ 24 := InvC_get hI 79 10 rfl rfl
  refine go_toq PM174 (k := 2) (pc' := 2) (L' := [some (.inr (.inr (some 79))), some (.inl p1), some (.inl p2), none]) (st' := [.inl 0, .inr (.inr (some 79))]) (w' := (SH, dt)) rfl ?_
  have hI4 : InvC (u2 dt 79 17 0) := InvC_u2 hI (lo := -2147483648) (hi := 2147483647) rfl rfl rfl (by decide) (by decide)
  have hF5 : Fr [79, 80, 82, 83, 84] dt (u2 dt 79 17 0) := Fr_u2 hF (by decide)
  have w6 : (u2 dt 79 17 0) 79 2 = dt 79 2 := rfl
  have w7 : (u2 dt 79 17 0) 79 9 = dt 79 9 := rfl
  have w8 : (u2 dt 79 17 0) 79 10 = dt 79 10 := rfl
  have w9 : (u2 dt 79 17 0) 79 11 = dt 79 11 := rfl
  have w10 : (u2 dt 79 17 0) 79 12 = dt 79 12 := rfl
  have w11 : (u2 dt 79 17 0) 79 13 = dt 79 13 := rfl
  have w12 : (u2 dt 79 17 0) 79 14 = dt 79 14 := rfl
  have w13 : (u2 dt 79 17 0) 79 15 = dt 79 15 := rfl
  have E8414 : (u2 dt 79 17 0) 84 = dt 84 := funext fun _ => rfl
  have E8015 : (u2 dt 79 17 0) 80 = dt 80 := (funext fun _ => u2_ne (fun z => absurd z.1 (by decide))).trans rfl
  refine go_smpq PM174 (L' := [some (.inr (.inr (some 79))), some (.inl p1), some (.inl p2), none]) (st' := []) (w' := (SH, (u2 dt 79 17 0))) rfl rfl (s_pf rfl rfl rfl rfl ⟨by decide, by decide⟩) ?_
  refine go_toq PM174 (k := 3) (pc' := 8) (L' := [some (.inr (.inr (some 79))), some (.inl p1), some (.inl p2), none]) (st' := [.inl 1, .inl 0, .inl p1]) (w' := (SH, (u2 dt 79 17 0))) rfl ?_
  refine go_callq PM174 PM146 (Q' := _) rfl rfl rfl rfl (sp_X6_isIn L xs sio (d + 37) (u2 dt 79 17 0) hI4  p1 (by first | exact h_p1 | exact bnd h_p1 (by decide) (by decide) | exact ⟨by omega, by omega⟩) 0 ⟨by decide, by decide⟩ 1 ⟨by decide, by decide⟩ ) ?_
  rintro _ _ ⟨rfl, h16⟩
  refine ⟨rfl, ?_⟩
  rcases h16 with ⟨rfl, h16⟩ | ⟨rfl, h16⟩
  · skip
    refine go_ifq PM174 (k := 4) (p1 := 25) (p2 := 20) (L' := [some (.inr (.inr (some 79))), some (.inl p1), some (.inl p2), none]) (st' := [.inl 0, .inl p2]) (w' := (SH, (u2 dt 79 17 0))) rfl (z_ne (a := p1) (by first | exact bnd h_p1 (by decide) (by decide) | exact ⟨by omega, by omega⟩)) (fun c17 => ?_) (fun c17 => ?_)
    · skip
      refine go_toq PM174 (k := 1) (pc' := 26) (L' := [some (.inr (.inr (some 79))), some (.inl p1), some (.inl p2), none]) (st' := [.inl 3, .inl 0, .inl p2]) (w' := (SH, (u2 dt 79 17 0))) rfl ?_
      refine go_callq PM174 PM146 (Q' := _) rfl rfl rfl rfl (sp_X6_isIn L xs sio (d + 37) (u2 dt 79 17 0) hI4  p2 (by first | exact h_p2 | exact bnd h_p2 (by decide) (by decide) | exact ⟨by omega, by omega⟩) 0 ⟨by decide, by decide⟩ 3 ⟨by decide, by decide⟩ ) ?_
      rintro _ _ ⟨rfl, h18⟩
      refine ⟨rfl, ?_⟩
      rcases h18 with ⟨rfl, h18⟩ | ⟨rfl, h18⟩
      · skip
        refine go_toq PM174 (k := 3) (pc' := 51) (L' := [some (.inr (.inr (some 79))), some (.inl p1), some (.inl p2), none]) (st' := [.inl p1, .inr (.inr (some 79))]) (w' := (SH, (u2 dt 79 17 0))) rfl ?_
        have hI19 : InvC (u2 (u2 dt 79 17 0) 79 9 p1) := InvC_u2 hI4 (lo := 0) (hi := 1) rfl rfl rfl (by first | exact bnd1 h_p1 (by decide) | omega) (by first | exact bnd2 h_p1 (by decide) | omega)
        have hF20 : Fr [79, 80, 82, 83, 84] dt (u2 (u2 dt 79 17 0) 79 9 p1) := Fr_u2 hF5 (by decide)
        have w21 : (u2 (u2 dt 79 17 0) 79 9 p1) 79 2 = (u2 dt 79 17 0) 79 2 := rfl
        have w22 : (u2 (u2 dt 79 17 0) 79 9 p1) 79 9 = p1 := rfl
        have w23 : (u2 (u2 dt 79 17 0) 79 9 p1) 79 10 = (u2 dt 79 17 0) 79 10 := rfl
        have w24 : (u2 (u2 dt 79 17 0) 79 9 p1) 79 11 = (u2 dt 79 17 0) 79 11 := rfl
        have w25 : (u2 (u2 dt 79 17 0) 79 9 p1) 79 12 = (u2 dt 79 17 0) 79 12 := rfl
        have w26 : (u2 (u2 dt 79 17 0) 79 9 p1) 79 13 = (u2 dt 79 17 0) 79 13 := rfl
        have w27 : (u2 (u2 dt 79 17 0) 79 9 p1) 79 14 = (u2 dt 79 17 0) 79 14 := rfl
        have w28 : (u2 (u2 dt 79 17 0) 79 9 p1) 79 15 = (u2 dt 79 17 0) 79 15 := rfl
        have E8429 : (u2 (u2 dt 79 17 0) 79 9 p1) 84 = dt 84 := (funext fun _ => rfl).trans E8414
        have E8030 : (u2 (u2 dt 79 17 0) 79 9 p1) 80 = dt 80 := (funext fun _ => u2_ne (fun z => absurd z.1 (by decide))).trans E8015
        refine go_smpq PM174 (L' := [some (.inr (.inr (some 79))), some (.inl p1), some (.inl p2), none]) (st' := []) (w' := (SH, (u2 (u2 dt 79 17 0) 79 9 p1))) rfl rfl (s_pf rfl rfl rfl rfl (by first | exact bnd h_p1 (by decide) (by decide) | exact ⟨by omega, by omega⟩)) ?_
        refine go_toq PM174 (k := 2) (pc' := 56) (L' := [some (.inr (.inr (some 79))), some (.inl p1), some (.inl p2), none]) (st' := [.inl 0, .inr (.inr (some 79))]) (w' := (SH, (u2 (u2 dt 79 17 0) 79 9 p1))) rfl ?_
        have hI31 : InvC (u2 (u2 (u2 dt 79 17 0) 79 9 p1) 79 13 0) := InvC_u2 hI19 (lo := 0) (hi := 501) rfl rfl rfl (by decide) (by decide)
        have hF32 : Fr [79, 80, 82, 83, 84] dt (u2 (u2 (u2 dt 79 17 0) 79 9 p1) 79 13 0) := Fr_u2 hF20 (by decide)
        have w33 : (u2 (u2 (u2 dt 79 17 0) 79 9 p1) 79 13 0) 79 2 = (u2 (u2 dt 79 17 0) 79 9 p1) 79 2 := rfl
        have w34 : (u2 (u2 (u2 dt 79 17 0) 79 9 p1) 79 13 0) 79 9 = (u2 (u2 dt 79 17 0) 79 9 p1) 79 9 := rfl
        have w35 : (u2 (u2 (u2 dt 79 17 0) 79 9 p1) 79 13 0) 79 10 = (u2 (u2 dt 79 17 0) 79 9 p1) 79 10 := rfl
        have w36 : (u2 (u2 (u2 dt 79 17 0) 79 9 p1) 79 13 0) 79 11 = (u2 (u2 dt 79 17 0) 79 9 p1) 79 11 := rfl
        have w37 : (u2 (u2 (u2 dt 79 17 0) 79 9 p1) 79 13 0) 79 12 = (u2 (u2 dt 79 17 0) 79 9 p1) 79 12 := rfl
        have w38 : (u2 (u2 (u2 dt 79 17 0) 79 9 p1) 79 13 0) 79 13 = 0 := rfl
        have w39 : (u2 (u2 (u2 dt 79 17 0) 79 9 p1) 79 13 0) 79 14 = (u2 (u2 dt 79 17 0) 79 9 p1) 79 14 := rfl
        have w40 : (u2 (u2 (u2 dt 79 17 0) 79 9 p1) 79 13 0) 79 15 = (u2 (u2 dt 79 17 0) 79 9 p1) 79 15 := rfl
        have E8441 : (u2 (u2 (u2 dt 79 17 0) 79 9 p1) 79 13 0) 84 = dt 84 := (funext fun _ => rfl).trans E8429
        have E8042 : (u2 (u2 (u2 dt 79 17 0) 79 9 p1) 79 13 0) 80 = dt 80 := (funext fun _ => u2_ne (fun z => absurd z.1 (by decide))).trans E8030
        refine go_smpq PM174 (L' := [some (.inr (.inr (some 79))), some (.inl p1), some (.inl p2), none]) (st' := []) (w' := (SH, (u2 (u2 (u2 dt 79 17 0) 79 9 p1) 79 13 0))) rfl rfl (s_pf rfl rfl rfl rfl ⟨by decide, by decide⟩) ?_
        refine go_toq PM174 (k := 2) (pc' := 61) (L' := [some (.inr (.inr (some 79))), some (.inl p1), some (.inl p2), none]) (st' := [.inl 0, .inr (.inr (some 79))]) (w' := (SH, (u2 (u2 (u2 dt 79 17 0) 79 9 p1) 79 13 0))) rfl ?_
        have hI43 : InvC (u2 (u2 (u2 (u2 dt 79 17 0) 79 9 p1) 79 13 0) 79 10 0) := InvC_u2 hI31 (lo := 0) (hi := 24) rfl rfl rfl (by decide) (by decide)
        have hF44 : Fr [79, 80, 82, 83, 84] dt (u2 (u2 (u2 (u2 dt 79 17 0) 79 9 p1) 79 13 0) 79 10 0) := Fr_u2 hF32 (by decide)
        have w45 : (u2 (u2 (u2 (u2 dt 79 17 0) 79 9 p1) 79 13 0) 79 10 0) 79 2 = (u2 (u2 (u2 dt 79 17 0) 79 9 p1) 79 13 0) 79 2 := rfl
        have w46 : (u2 (u2 (u2 (u2 dt 79 17 0) 79 9 p1) 79 13 0) 79 10 0) 79 9 = (u2 (u2 (u2 dt 79 17 0) 79 9 p1) 79 13 0) 79 9 := rfl
        have w47 : (u2 (u2 (u2 (u2 dt 79 17 0) 79 9 p1) 79 13 0) 79 10 0) 79 10 = 0 := rfl
        have w48 : (u2 (u2 (u2 (u2 dt 79 17 0) 79 9 p1) 79 13 0) 79 10 0) 79 11 = (u2 (u2 (u2 dt 79 17 0) 79 9 p1) 79 13 0) 79 11 := rfl
        have w49 : (u2 (u2 (u2 (u2 dt 79 17 0) 79 9 p1) 79 13 0) 79 10 0) 79 12 = (u2 (u2 (u2 dt 79 17 0) 79 9 p1) 79 13 0) 79 12 := rfl
        have w50 : (u2 (u2 (u2 (u2 dt 79 17 0) 79 9 p1) 79 13 0) 79 10 0) 79 13 = (u2 (u2 (u2 dt 79 17 0) 79 9 p1) 79 13 0) 79 13 := rfl
        have w51 : (u2 (u2 (u2 (u2 dt 79 17 0) 79 9 p1) 79 13 0) 79 10 0) 79 14 = (u2 (u2 (u2 dt 79 17 0) 79 9 p1) 79 13 0) 79 14 := rfl
        have w52 : (u2 (u2 (u2 (u2 dt 79 17 0) 79 9 p1) 79 13 0) 79 10 0) 79 15 = (u2 (u2 (u2 dt 79 17 0) 79 9 p1) 79 13 0) 79 15 := rfl
        have E8453 : (u2 (u2 (u2 (u2 dt 79 17 0) 79 9 p1) 79 13 0) 79 10 0) 84 = dt 84 := (funext fun _ => rfl).trans E8441
        have E8054 : (u2 (u2 (u2 (u2 dt 79 17 0) 79 9 p1) 79 13 0) 79 10 0) 80 = dt 80 := (funext fun _ => u2_ne (fun z => absurd z.1 (by decide))).trans E8042
        refine go_smpq PM174 (L' := [some (.inr (.inr (some 79))), some (.inl p1), some (.inl p2), none]) (st' := []) (w' := (SH, (u2 (u2 (u2 (u2 dt 79 17 0) 79 9 p1) 79 13 0) 79 10 0))) rfl rfl (s_pf rfl rfl rfl rfl ⟨by decide, by decide⟩) ?_
        refine go_toq PM174 (k := 2) (pc' := 66) (L' := [some (.inr (.inr (some 79))), some (.inl p1), some (.inl p2), none]) (st' := [.inl 0, .inr (.inr (some 79))]) (w' := (SH, (u2 (u2 (u2 (u2 dt 79 17 0) 79 9 p1) 79 13 0) 79 10 0))) rfl ?_
        have hI55 : InvC (u2 (u2 (u2 (u2 (u2 dt 79 17 0) 79 9 p1) 79 13 0) 79 10 0) 79 11 0) := InvC_u2 hI43 (lo := 0) (hi := 510) rfl rfl rfl (by decide) (by decide)
        have hF56 : Fr [79, 80, 82, 83, 84] dt (u2 (u2 (u2 (u2 (u2 dt 79 17 0) 79 9 p1) 79 13 0) 79 10 0) 79 11 0) := Fr_u2 hF44 (by decide)
        have w57 : (u2 (u2 (u2 (u2 (u2 dt 79 17 0) 79 9 p1) 79 13 0) 79 10 0) 79 11 0) 79 2 = (u2 (u2 (u2 (u2 dt 79 17 0) 79 9 p1) 79 13 0) 79 10 0) 79 2 := rfl
        have w58 : (u2 (u2 (u2 (u2 (u2 dt 79 17 0) 79 9 p1) 79 13 0) 79 10 0) 79 11 0) 79 9 = (u2 (u2 (u2 (u2 dt 79 17 0) 79 9 p1) 79 13 0) 79 10 0) 79 9 := rfl
        have w59 : (u2 (u2 (u2 (u2 (u2 dt 79 17 0) 79 9 p1) 79 13 0) 79 10 0) 79 11 0) 79 10 = (u2 (u2 (u2 (u2 dt 79 17 0) 79 9 p1) 79 13 0) 79 10 0) 79 10 := rfl
        have w60 : (u2 (u2 (u2 (u2 (u2 dt 79 17 0) 79 9 p1) 79 13 0) 79 10 0) 79 11 0) 79 11 = 0 := rfl
        have w61 : (u2 (u2 (u2 (u2 (u2 dt 79 17 0) 79 9 p1) 79 13 0) 79 10 0) 79 11 0) 79 12 = (u2 (u2 (u2 (u2 dt 79 17 0) 79 9 p1) 79 13 0) 79 10 0) 79 12 := rfl
        have w62 : (u2 (u2 (u2 (u2 (u2 dt 79 17 0) 79 9 p1) 79 13 0) 79 10 0) 79 11 0) 79 13 = (u2 (u2 (u2 (u2 dt 79 17 0) 79 9 p1) 79 13 0) 79 10 0) 79 13 := rfl
        have w63 : (u2 (u2 (u2 (u2 (u2 dt 79 17 0) 79 9 p1) 79 13 0) 79 10 0) 79 11 0) 79 14 = (u2 (u2 (u2 (u2 dt 79 17 0) 79 9 p1) 79 13 0) 79 10 0) 79 14 := rfl
        have w64 : (u2 (u2 (u2 (u2 (u2 dt 79 17 0) 79 9 p1) 79 13 0) 79 10 0) 79 11 0) 79 15 = (u2 (u2 (u2 (u2 dt 79 17 0) 79 9 p1) 79 13 0) 79 10 0) 79 15 := rfl
        have E8465 : (u2 (u2 (u2 (u2 (u2 dt 79 17 0) 79 9 p1) 79 13 0) 79 10 0) 79 11 0) 84 = dt 84 := (funext fun _ => rfl).trans E8453
        have E8066 : (u2 (u2 (u2 (u2 (u2 dt 79 17 0) 79 9 p1) 79 13 0) 79 10 0) 79 11 0) 80 = dt 80 := (funext fun _ => u2_ne (fun z => absurd z.1 (by decide))).trans E8054
        refine go_smpq PM174 (L' := [some (.inr (.inr (some 79))), some (.inl p1), some (.inl p2), none]) (st' := []) (w' := (SH, (u2 (u2 (u2 (u2 (u2 dt 79 17 0) 79 9 p1) 79 13 0) 79 10 0) 79 11 0))) rfl rfl (s_pf rfl rfl rfl rfl ⟨by decide, by decide⟩) ?_
        refine go_toq PM174 (k := 1) (pc' := 70) (L' := [some (.inr (.inr (some 79))), some (.inl p1), some (.inl p2), none]) (st' := [.inr (.inr (some 79))]) (w' := (SH, (u2 (u2 (u2 (u2 (u2 dt 79 17 0) 79 9 p1) 79 13 0) 79 10 0) 79 11 0))) rfl ?_
        refine go_callq PM174 PM159 (Q' := _) rfl rfl rfl rfl (sp_X6_next0 L xs sio (d + 31) (u2 (u2 (u2 (u2 (u2 dt 79 17 0) 79 9 p1) 79 13 0) 79 10 0) 79 11 0) hI55   (by first | exact True.intro | rfl | omega | trivial | exact hI4 (by omega) (by omega) | exact hI5 (by omega) (by omega))) ?_
        rintro _ _ ⟨dt68, rfl, hI69, hF70, h67⟩
        refine ⟨rfl, ?_⟩
        have hF71 : Fr [79, 80, 82, 83, 84] dt dt68 := Fr_tr hF56 hF70 (by decide)
        have hM72 : MW (dt68 80) := MW_fr (d0 := (u2 (u2 (u2 (u2 (u2 dt 79 17 0) 79 9 p1) 79 13 0) 79 10 0) 79 11 0)) hM hF70 (by decide)
        have E8073 : dt68 80 = dt 80 := (funext (hF70 80 (by decide))).trans E8066
        have E8474 : dt68 84 = dt 84 := (funext (hF70 84 (by decide))).trans E8465
        rcases h67 with ⟨rfl, h67⟩
        obtain ⟨h67_0, h67_1, h67_2, h67_3, h67_4, h67_5, h67_6, h67_7, h67_8⟩ := h67
        refine go_toq PM174 (k := 2) (pc' := 75) (L' := [some (.inr (.inr (some 79))), some (.inl p1), some (.inl p2), some (.inl 1)]) (st' := []) (w' := (SH, dt68)) rfl ?_
        have loop127 : ∀ (k_ : Nat) (l75_3 : Int) (dt114 : Nat → Nat → Int) (hI115 : InvC dt114) (hF116 : Fr [79, 80, 82, 83, 84] dt dt114) (hM_dt114 : MW (dt114 80)) (i117 : 0 ≤ l75_3 ∧ l75_3 ≤ 1) (i118 : l75_3 = 1 → (¬ dt114 79 14 = 0 → dt114 79 15 + 1 ≤ dt114 79 13) ∧ dt114 79 13 ≤ 500) (i119 : dt114 79 15 ≤ 500) (i120 : l75_3 = 1 → dt114 79 11 ≤ dt114 79 15) (i121 : l75_3 = 1 → p1 = 1 → dt114 79 10 ≤ 16) (i122 : l75_3 = 1 → p1 = 0 → ARW (dt114 82) (dt114 79 10)) (i123 : l75_3 = 1 → p1 = 1 → LRW (dt114 83) (dt114 84) (dt114 79 10) (dt114 79 11)) (i124 : dt114 79 2 = dt 79 2) (i125 : dt114 79 9 = p1) (i126 : dt114 80 = dt 80), (l75_3 * (502 - dt114 79 15)).toNat < k_ → GO (am_XX L xs sio) (d + 38) 174 75 [some (.inr (.inr (some 79))), some (.inl p1), some (.inl p2), some (.inl l75_3)] [] (SH, dt114) (fun r w2 => ∃ dt2 : Nat → Nat → Int, w2 = (SH, dt2) ∧ InvC dt2 ∧ Fr [79, 80, 82, 83, 84] dt dt2 ∧ ((∃ v : Int, r = some (.inl v) ∧ ((-1) ≤ v ∧ v ≤ 24) ∧ (dt2 79 12 = 0) ∧ (dt2 79 2 = dt 79 2) ∧ (MW (dt2 80)) ∧ (dt2 80 0 = dt 80 0) ∧ (dt2 80 1 = dt 80 1) ∧ (dt2 80 2 = dt 80 2) ∧ (dt2 80 3 = dt 80 3) ∧ (dt2 80 4 = dt 80 4) ∧ (dt2 80 5 = dt 80 5)))) := by
          intro k_
          induction k_ with
          | zero => intro l75_3 dt114 hI115 hF116 hM_dt114 i117 i118 i119 i120 i121 i122 i123 i124 i125 i126 hm; exact absurd hm (Nat.not_lt_zero _)
          | succ k_ ih_loop127 =>
            intro l75_3 dt114 hI115 hF116 hM_dt114 i117 i118 i119 i120 i121 i122 i123 i124 i125 i126 hm
            have q10 : 0 ≤ dt114 79 10 ∧ dt114 79 10 ≤ 24 := InvC_get (by assumption) 79 10 rfl rfl
            have q11 : 0 ≤ dt114 79 11 ∧ dt114 79 11 ≤ 510 := InvC_get (by assumption) 79 11 rfl rfl
            have hE80 := i126
            have hI4 := i122
            have hI5 := i123
            have hm1 : l75_3 = 1 → (l75_3 * (502 - dt114 79 15)).toNat = (502 - dt114 79 15).toNat := fun e => by rw [e, Int.one_mul]
            refine go_ifq PM174 (k := 1) (p1 := 123) (p2 := 79) (L' := [some (.inr (.inr (some 79))), some (.inl p1), some (.inl p2), some (.inl l75_3)]) (st' := []) (w' := (SH, dt114)) rfl (z_eq (a := l75_3) (by first | exact bnd i117 (by decide) (by decide) | exact ⟨by omega, by omega⟩)) (fun c128 => ?_) (fun c128 => ?_)
            · skip
              refine go_toq PM174 (k := 2) (pc' := 125) (L' := [some (.inr (.inr (some 79))), some (.inl p1), some (.inl p2), some (.inl l75_3)]) (st' := [.inl 0, .inr (.inr (some 79))]) (w' := (SH, dt114)) rfl ?_
              have hI129 : InvC (u2 dt114 79 12 0) := InvC_u2 hI115 (lo := 0) (hi := 500) rfl rfl rfl (by decide) (by decide)
              have hF130 : Fr [79, 80, 82, 83, 84] dt (u2 dt114 79 12 0) := Fr_u2 hF116 (by decide)
              have w131 : (u2 dt114 79 12 0) 79 2 = dt114 79 2 := rfl
              have w132 : (u2 dt114 79 12 0) 79 9 = dt114 79 9 := rfl
              have w133 : (u2 dt114 79 12 0) 79 10 = dt114 79 10 := rfl
              have w134 : (u2 dt114 79 12 0) 79 11 = dt114 79 11 := rfl
              have w135 : (u2 dt114 79 12 0) 79 12 = 0 := rfl
              have w136 : (u2 dt114 79 12 0) 79 13 = dt114 79 13 := rfl
              have w137 : (u2 dt114 79 12 0) 79 14 = dt114 79 14 := rfl
              have w138 : (u2 dt114 79 12 0) 79 15 = dt114 79 15 := rfl
              have E84139 : (u2 dt114 79 12 0) 84 = dt114 84 := funext fun _ => rfl
              have E80140 : (u2 dt114 79 12 0) 80 = dt 80 := (funext fun _ => u2_ne (fun z => absurd z.1 (by decide))).trans hE80
              refine go_smpq PM174 (L' := [some (.inr (.inr (some 79))), some (.inl p1), some (.inl p2), some (.inl l75_3)]) (st' := []) (w' := (SH, (u2 dt114 79 12 0))) rfl rfl (s_pf rfl rfl rfl rfl ⟨by decide, by decide⟩) ?_
              have r141 : (-2147483648) ≤ dt114 79 17 ∧ dt114 79 17 ≤ 2147483647 := InvC_get hI115 79 17 rfl rfl
              refine go_toq PM174 (k := 3) (pc' := 133) (L' := [some (.inr (.inr (some 79))), some (.inl p1), some (.inl p2), some (.inl l75_3)]) (st' := [.inl (dt114 79 17), .inr (.inr (some 79))]) (w' := (SH, (u2 dt114 79 12 0))) rfl ?_
              have hI142 : InvC (u2 (u2 dt114 79 12 0) 79 19 (dt114 79 17)) := InvC_u2 hI129 (lo := -2147483648) (hi := 2147483647) rfl rfl rfl (by first | exact bnd1 r141 (by decide) | omega) (by first | exact bnd2 r141 (by decide) | omega)
              have hF143 : Fr [79, 80, 82, 83, 84] dt (u2 (u2 dt114 79 12 0) 79 19 (dt114 79 17)) := Fr_u2 hF130 (by decide)
              have w144 : (u2 (u2 dt114 79 12 0) 79 19 (dt114 79 17)) 79 2 = (u2 dt114 79 12 0) 79 2 := rfl
              have w145 : (u2 (u2 dt114 79 12 0) 79 19 (dt114 79 17)) 79 9 = (u2 dt114 79 12 0) 79 9 := rfl
              have w146 : (u2 (u2 dt114 79 12 0) 79 19 (dt114 79 17)) 79 10 = (u2 dt114 79 12 0) 79 10 := rfl
              have w147 : (u2 (u2 dt114 79 12 0) 79 19 (dt114 79 17)) 79 11 = (u2 dt114 79 12 0) 79 11 := rfl
              have w148 : (u2 (u2 dt114 79 12 0) 79 19 (dt114 79 17)) 79 12 = (u2 dt114 79 12 0) 79 12 := rfl
              have w149 : (u2 (u2 dt114 79 12 0) 79 19 (dt114 79 17)) 79 13 = (u2 dt114 79 12 0) 79 13 := rfl
              have w150 : (u2 (u2 dt114 79 12 0) 79 19 (dt114 79 17)) 79 14 = (u2 dt114 79 12 0) 79 14 := rfl
              have w151 : (u2 (u2 dt114 79 12 0) 79 19 (dt114 79 17)) 79 15 = (u2 dt114 79 12 0) 79 15 := rfl
              have E84152 : (u2 (u2 dt114 79 12 0) 79 19 (dt114 79 17)) 84 = dt114 84 := (funext fun _ => rfl).trans E84139
              have E80153 : (u2 (u2 dt114 79 12 0) 79 19 (dt114 79 17)) 80 = dt 80 := (funext fun _ => u2_ne (fun z => absurd z.1 (by decide))).trans E80140
              refine go_smpq PM174 (L' := [some (.inr (.inr (some 79))), some (.inl p1), some (.inl p2), some (.inl l75_3)]) (st' := []) (w' := (SH, (u2 (u2 dt114 79 12 0) 79 19 (dt114 79 17)))) rfl rfl (s_pf rfl rfl rfl rfl (by first | exact bnd r141 (by decide) (by decide) | exact ⟨by omega, by omega⟩)) ?_
              refine go_ifq PM174 (k := 2) (p1 := 145) (p2 := 141) (L' := [some (.inr (.inr (some 79))), some (.inl p1), some (.inl p2), some (.inl l75_3)]) (st' := [.inr (.inr (some 79))]) (w' := (SH, (u2 (u2 dt114 79 12 0) 79 19 (dt114 79 17)))) rfl (z_eq (a := l75_3) (by first | exact bnd i117 (by decide) (by decide) | exact ⟨by omega, by omega⟩)) (fun c154 => ?_) (fun c154 => ?_)
              · skip
                have r155 : (-2147483648) ≤ dt114 79 18 ∧ dt114 79 18 ≤ 2147483647 := InvC_get hI115 79 18 rfl rfl
                refine go_toq PM174 (k := 2) (pc' := 149) (L' := [some (.inr (.inr (some 79))), some (.inl p1), some (.inl p2), some (.inl l75_3)]) (st' := [.inl (dt114 79 18), .inr (.inr (some 79))]) (w' := (SH, (u2 (u2 dt114 79 12 0) 79 19 (dt114 79 17)))) rfl ?_
                have hI156 : InvC (u2 (u2 (u2 dt114 79 12 0) 79 19 (dt114 79 17)) 79 21 (dt114 79 18)) := InvC_u2 hI142 (lo := -2147483648) (hi := 2147483647) rfl rfl rfl (by first | exact bnd1 r155 (by decide) | omega) (by first | exact bnd2 r155 (by decide) | omega)
                have hF157 : Fr [79, 80, 82, 83, 84] dt (u2 (u2 (u2 dt114 79 12 0) 79 19 (dt114 79 17)) 79 21 (dt114 79 18)) := Fr_u2 hF143 (by decide)
                have w158 : (u2 (u2 (u2 dt114 79 12 0) 79 19 (dt114 79 17)) 79 21 (dt114 79 18)) 79 2 = (u2 (u2 dt114 79 12 0) 79 19 (dt114 79 17)) 79 2 := rfl
                have w159 : (u2 (u2 (u2 dt114 79 12 0) 79 19 (dt114 79 17)) 79 21 (dt114 79 18)) 79 9 = (u2 (u2 dt114 79 12 0) 79 19 (dt114 79 17)) 79 9 := rfl
                have w160 : (u2 (u2 (u2 dt114 79 12 0) 79 19 (dt114 79 17)) 79 21 (dt114 79 18)) 79 10 = (u2 (u2 dt114 79 12 0) 79 19 (dt114 79 17)) 79 10 := rfl
                have w161 : (u2 (u2 (u2 dt114 79 12 0) 79 19 (dt114 79 17)) 79 21 (dt114 79 18)) 79 11 = (u2 (u2 dt114 79 12 0) 79 19 (dt114 79 17)) 79 11 := rfl
                have w162 : (u2 (u2 (u2 dt114 79 12 0) 79 19 (dt114 79 17)) 79 21 (dt114 79 18)) 79 12 = (u2 (u2 dt114 79 12 0) 79 19 (dt114 79 17)) 79 12 := rfl
                have w163 : (u2 (u2 (u2 dt114 79 12 0) 79 19 (dt114 79 17)) 79 21 (dt114 79 18)) 79 13 = (u2 (u2 dt114 79 12 0) 79 19 (dt114 79 17)) 79 13 := rfl
                have w164 : (u2 (u2 (u2 dt114 79 12 0) 79 19 (dt114 79 17)) 79 21 (dt114 79 18)) 79 14 = (u2 (u2 dt114 79 12 0) 79 19 (dt114 79 17)) 79 14 := rfl
                have w165 : (u2 (u2 (u2 dt114 79 12 0) 79 19 (dt114 79 17)) 79 21 (dt114 79 18)) 79 15 = (u2 (u2 dt114 79 12 0) 79 19 (dt114 79 17)) 79 15 := rfl
                have E84166 : (u2 (u2 (u2 dt114 79 12 0) 79 19 (dt114 79 17)) 79 21 (dt114 79 18)) 84 = dt114 84 := (funext fun _ => rfl).trans E84152
                have E80167 : (u2 (u2 (u2 dt114 79 12 0) 79 19 (dt114 79 17)) 79 21 (dt114 79 18)) 80 = dt 80 := (funext fun _ => u2_ne (fun z => absurd z.1 (by decide))).trans E80153
                refine go_smpq PM174 (L' := [some (.inr (.inr (some 79))), some (.inl p1), some (.inl p2), some (.inl l75_3)]) (st' := []) (w' := (SH, (u2 (u2 (u2 dt114 79 12 0) 79 19 (dt114 79 17)) 79 21 (dt114 79 18)))) rfl rfl (s_pf rfl rfl rfl rfl (by first | exact bnd r155 (by decide) (by decide) | exact ⟨by omega, by omega⟩)) ?_
                refine go_ifq PM174 (k := 1) (p1 := 158) (p2 := 156) (L' := [some (.inr (.inr (some 79))), some (.inl p1), some (.inl p2), some (.inl l75_3)]) (st' := []) (w' := (SH, (u2 (u2 (u2 dt114 79 12 0) 79 19 (dt114 79 17)) 79 21 (dt114 79 18)))) rfl (z_ne (a := l75_3) (by first | exact bnd i117 (by decide) (by decide) | exact ⟨by omega, by omega⟩)) (fun c168 => ?_) (fun c168 => ?_)
                · skip
                  refine go_toq PM174 (k := 2) (pc' := 160) (L' := [some (.inr (.inr (some 79))), some (.inl p1), some (.inl p2), some (.inl l75_3)]) (st' := [.inl p2, .inr (.inr (some 79))]) (w' := (SH, (u2 (u2 (u2 dt114 79 12 0) 79 19 (dt114 79 17)) 79 21 (dt114 79 18)))) rfl ?_
                  refine go_callq PM174 PM175 (Q' := _) rfl rfl rfl rfl (sp_X6_keeps_k1 L xs sio (d + 37) (u2 (u2 (u2 dt114 79 12 0) 79 19 (dt114 79 17)) 79 21 (dt114 79 18)) hI156 hM_dt114  p2 (by first | exact h_p2 | exact bnd h_p2 (by decide) (by decide) | exact ⟨by omega, by omega⟩) (by first | exact True.intro | rfl | omega | trivial | exact hI4 (by omega) (by omega) | exact hI5 (by omega) (by omega)) (by first | exact True.intro | rfl | omega | trivial | exact hI4 (by omega) (by omega) | exact hI5 (by omega) (by omega)) (by first | exact True.intro | rfl | omega | trivial | exact hI4 (by omega) (by omega) | exact hI5 (by omega) (by omega)) (by first | exact True.intro | rfl | omega | trivial | exact hI4 (by omega) (by omega) | exact hI5 (by omega) (by omega))) ?_
                  rintro _ _ ⟨dt170, rfl, hI171, hF172, h169⟩
                  refine ⟨rfl, ?_⟩
                  have hF173 : Fr [79, 80, 82, 83, 84] dt dt170 := Fr_tr hF157 hF172 (by decide)
                  have w174 : dt170 79 2 = (u2 (u2 (u2 dt114 79 12 0) 79 19 (dt114 79 17)) 79 21 (dt114 79 18)) 79 2 := hF172 79 (by decide) 2
                  have w175 : dt170 79 9 = (u2 (u2 (u2 dt114 79 12 0) 79 19 (dt114 79 17)) 79 21 (dt114 79 18)) 79 9 := hF172 79 (by decide) 9
                  have w176 : dt170 79 10 = (u2 (u2 (u2 dt114 79 12 0) 79 19 (dt114 79 17)) 79 21 (dt114 79 18)) 79 10 := hF172 79 (by decide) 10
                  have w177 : dt170 79 11 = (u2 (u2 (u2 dt114 79 12 0) 79 19 (dt114 79 17)) 79 21 (dt114 79 18)) 79 11 := hF172 79 (by decide) 11
                  have w178 : dt170 79 12 = (u2 (u2 (u2 dt114 79 12 0) 79 19 (dt114 79 17)) 79 21 (dt114 79 18)) 79 12 := hF172 79 (by decide) 12
                  have w179 : dt170 79 13 = (u2 (u2 (u2 dt114 79 12 0) 79 19 (dt114 79 17)) 79 21 (dt114 79 18)) 79 13 := hF172 79 (by decide) 13
                  have w180 : dt170 79 14 = (u2 (u2 (u2 dt114 79 12 0) 79 19 (dt114 79 17)) 79 21 (dt114 79 18)) 79 14 := hF172 79 (by decide) 14
                  have w181 : dt170 79 15 = (u2 (u2 (u2 dt114 79 12 0) 79 19 (dt114 79 17)) 79 21 (dt114 79 18)) 79 15 := hF172 79 (by decide) 15
                  have E84182 : dt170 84 = dt114 84 := (funext (hF172 84 (by decide))).trans E84166
                  rcases h169 with ⟨rfl, h169⟩
                  have hM183 : MW (dt170 80) := h169.1
                  obtain ⟨h169_0, h169_1, h169_2, h169_3, h169_4, h169_5, h169_6⟩ := h169
                  have r184 : 0 ≤ dt170 79 10 ∧ dt170 79 10 ≤ 24 := InvC_get hI171 79 10 rfl rfl
                  refine go_retq PM174 (k := 2) (r := some (.inl (dt170 79 10))) (w1 := (SH, dt170)) rfl ?_
                  exact ⟨dt170, rfl, hI171, hF173, ⟨_, rfl, (by first | exact bnd r184 (by decide) (by decide) | exact ⟨by omega, by omega⟩), ⟨by first | exact True.intro | rfl | omega | trivial, by first | exact True.intro | rfl | omega | trivial, by first | assumption | exact hM, by first | rfl | exact congrFun E80167 0 | exact Eq.trans (by assumption) (congrFun E80167 0), by first | rfl | exact congrFun E80167 1 | exact Eq.trans (by assumption) (congrFun E80167 1), by first | rfl | exact congrFun E80167 2 | exact Eq.trans (by assumption) (congrFun E80167 2), by first | rfl | exact congrFun E80167 3 | exact Eq.trans (by assumption) (congrFun E80167 3), by first | rfl | exact congrFun E80167 4 | exact Eq.trans (by assumption) (congrFun E80167 4), by first | rfl | exact congrFun E80167 5 | exact Eq.trans (by assumption) (congrFun E80167 5)⟩⟩⟩
                · skip
                  refine go_retq PM174 (k := 1) (r := some (.inl (-1))) (w1 := (SH, (u2 (u2 (u2 dt114 79 12 0) 79 19 (dt114 79 17)) 79 21 (dt114 79 18)))) rfl ?_
                  exact ⟨(u2 (u2 (u2 dt114 79 12 0) 79 19 (dt114 79 17)) 79 21 (dt114 79 18)), rfl, hI156, hF157, ⟨_, rfl, ⟨by decide, by decide⟩, ⟨by first | exact True.intro | rfl | omega | trivial, by first | exact True.intro | rfl | omega | trivial, by first | assumption | exact hM, by first | rfl | exact congrFun E80167 0 | exact Eq.trans (by assumption) (congrFun E80167 0), by first | rfl | exact congrFun E80167 1 | exact Eq.trans (by assumption) (congrFun E80167 1), by first | rfl | exact congrFun E80167 2 | exact Eq.trans (by assumption) (congrFun E80167 2), by first | rfl | exact congrFun E80167 3 | exact Eq.trans (by assumption) (congrFun E80167 3), by first | rfl | exact congrFun E80167 4 | exact Eq.trans (by assumption) (congrFun E80167 4), by first | rfl | exact congrFun E80167 5 | exact Eq.trans (by assumption) (congrFun E80167 5)⟩⟩⟩
              · skip
                refine go_toq PM174 (k := 2) (pc' := 149) (L' := [some (.inr (.inr (some 79))), some (.inl p1), some (.inl p2), some (.inl l75_3)]) (st' := [.inl (-1), .inr (.inr (some 79))]) (w' := (SH, (u2 (u2 dt114 79 12 0) 79 19 (dt114 79 17)))) rfl ?_
                have hI185 : InvC (u2 (u2 (u2 dt114 79 12 0) 79 19 (dt114 79 17)) 79 21 (-1)) := InvC_u2 hI142 (lo := -2147483648) (hi := 2147483647) rfl rfl rfl (by decide) (by decide)
                have hF186 : Fr [79, 80, 82, 83, 84] dt (u2 (u2 (u2 dt114 79 12 0) 79 19 (dt114 79 17)) 79 21 (-1)) := Fr_u2 hF143 (by decide)
                have w187 : (u2 (u2 (u2 dt114 79 12 0) 79 19 (dt114 79 17)) 79 21 (-1)) 79 2 = (u2 (u2 dt114 79 12 0) 79 19 (dt114 79 17)) 79 2 := rfl
                have w188 : (u2 (u2 (u2 dt114 79 12 0) 79 19 (dt114 79 17)) 79 21 (-1)) 79 9 = (u2 (u2 dt114 79 12 0) 79 19 (dt114 79 17)) 79 9 := rfl
                have w189 : (u2 (u2 (u2 dt114 79 12 0) 79 19 (dt114 79 17)) 79 21 (-1)) 79 10 = (u2 (u2 dt114 79 12 0) 79 19 (dt114 79 17)) 79 10 := rfl
                have w190 : (u2 (u2 (u2 dt114 79 12 0) 79 19 (dt114 79 17)) 79 21 (-1)) 79 11 = (u2 (u2 dt114 79 12 0) 79 19 (dt114 79 17)) 79 11 := rfl
                have w191 : (u2 (u2 (u2 dt114 79 12 0) 79 19 (dt114 79 17)) 79 21 (-1)) 79 12 = (u2 (u2 dt114 79 12 0) 79 19 (dt114 79 17)) 79 12 := rfl
                have w192 : (u2 (u2 (u2 dt114 79 12 0) 79 19 (dt114 79 17)) 79 21 (-1)) 79 13 = (u2 (u2 dt114 79 12 0) 79 19 (dt114 79 17)) 79 13 := rfl
                have w193 : (u2 (u2 (u2 dt114 79 12 0) 79 19 (dt114 79 17)) 79 21 (-1)) 79 14 = (u2 (u2 dt114 79 12 0) 79 19 (dt114 79 17)) 79 14 := rfl
                have w194 : (u2 (u2 (u2 dt114 79 12 0) 79 19 (dt114 79 17)) 79 21 (-1)) 79 15 = (u2 (u2 dt114 79 12 0) 79 19 (dt114 79 17)) 79 15 := rfl
                have E84195 : (u2 (u2 (u2 dt114 79 12 0) 79 19 (dt114 79 17)) 79 21 (-1)) 84 = dt114 84 := (funext fun _ => rfl).trans E84152
                have E80196 : (u2 (u2 (u2 dt114 79 12 0) 79 19 (dt114 79 17)) 79 21 (-1)) 80 = dt 80 := (funext fun _ => u2_ne (fun z => absurd z.1 (by decide))).trans E80153
                refine go_smpq PM174 (L' := [some (.inr (.inr (some 79))), some (.inl p1), some (.inl p2), some (.inl l75_3)]) (st' := []) (w' := (SH, (u2 (u2 (u2 dt114 79 12 0) 79 19 (dt114 79 17)) 79 21 (-1)))) rfl rfl (s_pf rfl rfl rfl rfl ⟨by decide, by decide⟩) ?_
                refine go_ifq PM174 (k := 1) (p1 := 158) (p2 := 156) (L' := [some (.inr (.inr (some 79))), some (.inl p1), some (.inl p2), some (.inl l75_3)]) (st' := []) (w' := (SH, (u2 (u2 (u2 dt114 79 12 0) 79 19 (dt114 79 17)) 79 21 (-1)))) rfl (z_ne (a := l75_3) (by first | exact bnd i117 (by decide) (by decide) | exact ⟨by omega, by omega⟩)) (fun c197 => ?_) (fun c197 => ?_)
                · skip
                  refine go_toq PM174 (k := 2) (pc' := 160) (L' := [some (.inr (.inr (some 79))), some (.inl p1), some (.inl p2), some (.inl l75_3)]) (st' := [.inl p2, .inr (.inr (some 79))]) (w' := (SH, (u2 (u2 (u2 dt114 79 12 0) 79 19 (dt114 79 17)) 79 21 (-1)))) rfl ?_
                  refine go_callq PM174 PM175 (Q' := _) rfl rfl rfl rfl (sp_X6_keeps_k1 L xs sio (d + 37) (u2 (u2 (u2 dt114 79 12 0) 79 19 (dt114 79 17)) 79 21 (-1)) hI185 hM_dt114  p2 (by first | exact h_p2 | exact bnd h_p2 (by decide) (by decide) | exact ⟨by omega, by omega⟩) (by first | exact True.intro | rfl | omega | trivial | exact hI4 (by omega) (by omega) | exact hI5 (by omega) (by omega)) (by first | exact True.intro | rfl | omega | trivial | exact hI4 (by omega) (by omega) | exact hI5 (by omega) (by omega)) (by first | exact True.intro | rfl | omega | trivial | exact hI4 (by omega) (by omega) | exact hI5 (by omega) (by omega)) (by first | exact True.intro | rfl | omega | trivial | exact hI4 (by omega) (by omega) | exact hI5 (by omega) (by omega))) ?_
                  rintro _ _ ⟨dt199, rfl, hI200, hF201, h198⟩
                  refine ⟨rfl, ?_⟩
                  have hF202 : Fr [79, 80, 82, 83, 84] dt dt199 := Fr_tr hF186 hF201 (by decide)
                  have w203 : dt199 79 2 = (u2 (u2 (u2 dt114 79 12 0) 79 19 (dt114 79 17)) 79 21 (-1)) 79 2 := hF201 79 (by decide) 2
                  have w204 : dt199 79 9 = (u2 (u2 (u2 dt114 79 12 0) 79 19 (dt114 79 17)) 79 21 (-1)) 79 9 := hF201 79 (by decide) 9
                  have w205 : dt199 79 10 = (u2 (u2 (u2 dt114 79 12 0) 79 19 (dt114 79 17)) 79 21 (-1)) 79 10 := hF201 79 (by decide) 10
                  have w206 : dt199 79 11 = (u2 (u2 (u2 dt114 79 12 0) 79 19 (dt114 79 17)) 79 21 (-1)) 79 11 := hF201 79 (by decide) 11
                  have w207 : dt199 79 12 = (u2 (u2 (u2 dt114 79 12 0) 79 19 (dt114 79 17)) 79 21 (-1)) 79 12 := hF201 79 (by decide) 12
                  have w208 : dt199 79 13 = (u2 (u2 (u2 dt114 79 12 0) 79 19 (dt114 79 17)) 79 21 (-1)) 79 13 := hF201 79 (by decide) 13
                  have w209 : dt199 79 14 = (u2 (u2 (u2 dt114 79 12 0) 79 19 (dt114 79 17)) 79 21 (-1)) 79 14 := hF201 79 (by decide) 14
                  have w210 : dt199 79 15 = (u2 (u2 (u2 dt114 79 12 0) 79 19 (dt114 79 17)) 79 21 (-1)) 79 15 := hF201 79 (by decide) 15
                  have E84211 : dt199 84 = dt114 84 := (funext (hF201 84 (by decide))).trans E84195
                  rcases h198 with ⟨rfl, h198⟩
                  have hM212 : MW (dt199 80) := h198.1
                  obtain ⟨h198_0, h198_1, h198_2, h198_3, h198_4, h198_5, h198_6⟩ := h198
                  have r213 : 0 ≤ dt199 79 10 ∧ dt199 79 10 ≤ 24 := InvC_get hI200 79 10 rfl rfl
                  refine go_retq PM174 (k := 2) (r := some (.inl (dt199 79 10))) (w1 := (SH, dt199)) rfl ?_
                  exact ⟨dt199, rfl, hI200, hF202, ⟨_, rfl, (by first | exact bnd r213 (by decide) (by decide) | exact ⟨by omega, by omega⟩), ⟨by first | exact True.intro | rfl | omega | trivial, by first | exact True.intro | rfl | omega | trivial, by first | assumption | exact hM, by first | rfl | exact congrFun E80196 0 | exact Eq.trans (by assumption) (congrFun E80196 0), by first | rfl | exact congrFun E80196 1 | exact Eq.trans (by assumption) (congrFun E80196 1), by first | rfl | exact congrFun E80196 2 | exact Eq.trans (by assumption) (congrFun E80196 2), by first | rfl | exact congrFun E80196 3 | exact Eq.trans (by assumption) (congrFun E80196 3), by first | rfl | exact congrFun E80196 4 | exact Eq.trans (by assumption) (congrFun E80196 4), by first | rfl | exact congrFun E80196 5 | exact Eq.trans (by assumption) (congrFun E80196 5)⟩⟩⟩
                · exfalso; omega
            · skip
              have hc214 : l75_3 = 1 := by omega
              subst hc214
              have r215 : (-2147483648) ≤ dt114 79 14 ∧ dt114 79 14 ≤ 2147483647 := InvC_get hI115 79 14 rfl rfl
              refine go_ifq PM174 (k := 2) (p1 := 123) (p2 := 86) (L' := [some (.inr (.inr (some 79))), some (.inl p1), some (.inl p2), some (.inl 1)]) (st' := []) (w' := (SH, dt114)) rfl (z_eq (a := dt114 79 14) (by first | exact bnd r215 (by decide) (by decide) | exact ⟨by omega, by omega⟩)) (fun c216 => ?_) (fun c216 => ?_)
              · skip
                refine go_toq PM174 (k := 2) (pc' := 125) (L' := [some (.inr (.inr (some 79))), some (.inl p1), some (.inl p2), some (.inl 1)]) (st' := [.inl 0, .inr (.inr (some 79))]) (w' := (SH, dt114)) rfl ?_
                have hI217 : InvC (u2 dt114 79 12 0) := InvC_u2 hI115 (lo := 0) (hi := 500) rfl rfl rfl (by decide) (by decide)
                have hF218 : Fr [79, 80, 82, 83, 84] dt (u2 dt114 79 12 0) := Fr_u2 hF116 (by decide)
                have w219 : (u2 dt114 79 12 0) 79 2 = dt114 79 2 := rfl
                have w220 : (u2 dt114 79 12 0) 79 9 = dt114 79 9 := rfl
                have w221 : (u2 dt114 79 12 0) 79 10 = dt114 79 10 := rfl
                have w222 : (u2 dt114 79 12 0) 79 11 = dt114 79 11 := rfl
                have w223 : (u2 dt114 79 12 0) 79 12 = 0 := rfl
                have w224 : (u2 dt114 79 12 0) 79 13 = dt114 79 13 := rfl
                have w225 : (u2 dt114 79 12 0) 79 14 = dt114 79 14 := rfl
                have w226 : (u2 dt114 79 12 0) 79 15 = dt114 79 15 := rfl
                have E84227 : (u2 dt114 79 12 0) 84 = dt114 84 := funext fun _ => rfl
                have E80228 : (u2 dt114 79 12 0) 80 = dt 80 := (funext fun _ => u2_ne (fun z => absurd z.1 (by decide))).trans hE80
                refine go_smpq PM174 (L' := [some (.inr (.inr (some 79))), some (.inl p1), some (.inl p2), some (.inl 1)]) (st' := []) (w' := (SH, (u2 dt114 79 12 0))) rfl rfl (s_pf rfl rfl rfl rfl ⟨by decide, by decide⟩) ?_
                have r229 : (-2147483648) ≤ dt114 79 17 ∧ dt114 79 17 ≤ 2147483647 := InvC_get hI115 79 17 rfl rfl
                refine go_toq PM174 (k := 3) (pc' := 133) (L' := [some (.inr (.inr (some 79))), some (.inl p1), some (.inl p2), some (.inl 1)]) (st' := [.inl (dt114 79 17), .inr (.inr (some 79))]) (w' := (SH, (u2 dt114 79 12 0))) rfl ?_
                have hI230 : InvC (u2 (u2 dt114 79 12 0) 79 19 (dt114 79 17)) := InvC_u2 hI217 (lo := -2147483648) (hi := 2147483647) rfl rfl rfl (by first | exact bnd1 r229 (by decide) | omega) (by first | exact bnd2 r229 (by decide) | omega)
                have hF231 : Fr [79, 80, 82, 83, 84] dt (u2 (u2 dt114 79 12 0) 79 19 (dt114 79 17)) := Fr_u2 hF218 (by decide)
                have w232 : (u2 (u2 dt114 79 12 0) 79 19 (dt114 79 17)) 79 2 = (u2 dt114 79 12 0) 79 2 := rfl
                have w233 : (u2 (u2 dt114 79 12 0) 79 19 (dt114 79 17)) 79 9 = (u2 dt114 79 12 0) 79 9 := rfl
                have w234 : (u2 (u2 dt114 79 12 0) 79 19 (dt114 79 17)) 79 10 = (u2 dt114 79 12 0) 79 10 := rfl
                have w235 : (u2 (u2 dt114 79 12 0) 79 19 (dt114 79 17)) 79 11 = (u2 dt114 79 12 0) 79 11 := rfl
                have w236 : (u2 (u2 dt114 79 12 0) 79 19 (dt114 79 17)) 79 12 = (u2 dt114 79 12 0) 79 12 := rfl
                have w237 : (u2 (u2 dt114 79 12 0) 79 19 (dt114 79 17)) 79 13 = (u2 dt114 79 12 0) 79 13 := rfl
                have w238 : (u2 (u2 dt114 79 12 0) 79 19 (dt114 79 17)) 79 14 = (u2 dt114 79 12 0) 79 14 := rfl
                have w239 : (u2 (u2 dt114 79 12 0) 79 19 (dt114 79 17)) 79 15 = (u2 dt114 79 12 0) 79 15 := rfl
                have E84240 : (u2 (u2 dt114 79 12 0) 79 19 (dt114 79 17)) 84 = dt114 84 := (funext fun _ => rfl).trans E84227
                have E80241 : (u2 (u2 dt114 79 12 0) 79 19 (dt114 79 17)) 80 = dt 80 := (funext fun _ => u2_ne (fun z => absurd z.1 (by decide))).trans E80228
                refine go_smpq PM174 (L' := [some (.inr (.inr (some 79))), some (.inl p1), some (.inl p2), some (.inl 1)]) (st' := []) (w' := (SH, (u2 (u2 dt114 79 12 0) 79 19 (dt114 79 17)))) rfl rfl (s_pf rfl rfl rfl rfl (by first | exact bnd r229 (by decide) (by decide) | exact ⟨by omega, by omega⟩)) ?_
                refine go_toq PM174 (k := 5) (pc' := 149) (L' := [some (.inr (.inr (some 79))), some (.inl p1), some (.inl p2), some (.inl 1)]) (st' := [.inl (-1), .inr (.inr (some 79))]) (w' := (SH, (u2 (u2 dt114 79 12 0) 79 19 (dt114 79 17)))) rfl ?_
                have hI242 : InvC (u2 (u2 (u2 dt114 79 12 0) 79 19 (dt114 79 17)) 79 21 (-1)) := InvC_u2 hI230 (lo := -2147483648) (hi := 2147483647) rfl rfl rfl (by decide) (by decide)
                have hF243 : Fr [79, 80, 82, 83, 84] dt (u2 (u2 (u2 dt114 79 12 0) 79 19 (dt114 79 17)) 79 21 (-1)) := Fr_u2 hF231 (by decide)
                have w244 : (u2 (u2 (u2 dt114 79 12 0) 79 19 (dt114 79 17)) 79 21 (-1)) 79 2 = (u2 (u2 dt114 79 12 0) 79 19 (dt114 79 17)) 79 2 := rfl
                have w245 : (u2 (u2 (u2 dt114 79 12 0) 79 19 (dt114 79 17)) 79 21 (-1)) 79 9 = (u2 (u2 dt114 79 12 0) 79 19 (dt114 79 17)) 79 9 := rfl
                have w246 : (u2 (u2 (u2 dt114 79 12 0) 79 19 (dt114 79 17)) 79 21 (-1)) 79 10 = (u2 (u2 dt114 79 12 0) 79 19 (dt114 79 17)) 79 10 := rfl
                have w247 : (u2 (u2 (u2 dt114 79 12 0) 79 19 (dt114 79 17)) 79 21 (-1)) 79 11 = (u2 (u2 dt114 79 12 0) 79 19 (dt114 79 17)) 79 11 := rfl
                have w248 : (u2 (u2 (u2 dt114 79 12 0) 79 19 (dt114 79 17)) 79 21 (-1)) 79 12 = (u2 (u2 dt114 79 12 0) 79 19 (dt114 79 17)) 79 12 := rfl
                have w249 : (u2 (u2 (u2 dt114 79 12 0) 79 19 (dt114 79 17)) 79 21 (-1)) 79 13 = (u2 (u2 dt114 79 12 0) 79 19 (dt114 79 17)) 79 13 := rfl
                have w250 : (u2 (u2 (u2 dt114 79 12 0) 79 19 (dt114 79 17)) 79 21 (-1)) 79 14 = (u2 (u2 dt114 79 12 0) 79 19 (dt114 79 17)) 79 14 := rfl
                have w251 : (u2 (u2 (u2 dt114 79 12 0) 79 19 (dt114 79 17)) 79 21 (-1)) 79 15 = (u2 (u2 dt114 79 12 0) 79 19 (dt114 79 17)) 79 15 := rfl
                have E84252 : (u2 (u2 (u2 dt114 79 12 0) 79 19 (dt114 79 17)) 79 21 (-1)) 84 = dt114 84 := (funext fun _ => rfl).trans E84240
                have E80253 : (u2 (u2 (u2 dt114 79 12 0) 79 19 (dt114 79 17)) 79 21 (-1)) 80 = dt 80 := (funext fun _ => u2_ne (fun z => absurd z.1 (by decide))).trans E80241
                refine go_smpq PM174 (L' := [some (.inr (.inr (some 79))), some (.inl p1), some (.inl p2), some (.inl 1)]) (st' := []) (w' := (SH, (u2 (u2 (u2 dt114 79 12 0) 79 19 (dt114 79 17)) 79 21 (-1)))) rfl rfl (s_pf rfl rfl rfl rfl ⟨by decide, by decide⟩) ?_
                refine go_toq PM174 (k := 4) (pc' := 160) (L' := [some (.inr (.inr (some 79))), some (.inl p1), some (.inl p2), some (.inl 1)]) (st' := [.inl p2, .inr (.inr (some 79))]) (w' := (SH, (u2 (u2 (u2 dt114 79 12 0) 79 19 (dt114 79 17)) 79 21 (-1)))) rfl ?_
                refine go_callq PM174 PM175 (Q' := _) rfl rfl rfl rfl (sp_X6_keeps_k1 L xs sio (d + 37) (u2 (u2 (u2 dt114 79 12 0) 79 19 (dt114 79 17)) 79 21 (-1)) hI242 hM_dt114  p2 (by first | exact h_p2 | exact bnd h_p2 (by decide) (by decide) | exact ⟨by omega, by omega⟩) (by first | exact True.intro | rfl | omega | trivial | exact hI4 (by omega) (by omega) | exact hI5 (by omega) (by omega)) (by first | exact True.intro | rfl | omega | trivial | exact hI4 (by omega) (by omega) | exact hI5 (by omega) (by omega)) (by first | exact True.intro | rfl | omega | trivial | exact hI4 (by omega) (by omega) | exact hI5 (by omega) (by omega)) (by first | exact True.intro | rfl | omega | trivial | exact hI4 (by omega) (by omega) | exact hI5 (by omega) (by omega))) ?_
                rintro _ _ ⟨dt255, rfl, hI256, hF257, h254⟩
                refine ⟨rfl, ?_⟩
                have hF258 : Fr [79, 80, 82, 83, 84] dt dt255 := Fr_tr hF243 hF257 (by decide)
                have w259 : dt255 79 2 = (u2 (u2 (u2 dt114 79 12 0) 79 19 (dt114 79 17)) 79 21 (-1)) 79 2 := hF257 79 (by decide) 2
                have w260 : dt255 79 9 = (u2 (u2 (u2 dt114 79 12 0) 79 19 (dt114 79 17)) 79 21 (-1)) 79 9 := hF257 79 (by decide) 9
                have w261 : dt255 79 10 = (u2 (u2 (u2 dt114 79 12 0) 79 19 (dt114 79 17)) 79 21 (-1)) 79 10 := hF257 79 (by decide) 10
                have w262 : dt255 79 11 = (u2 (u2 (u2 dt114 79 12 0) 79 19 (dt114 79 17)) 79 21 (-1)) 79 11 := hF257 79 (by decide) 11
                have w263 : dt255 79 12 = (u2 (u2 (u2 dt114 79 12 0) 79 19 (dt114 79 17)) 79 21 (-1)) 79 12 := hF257 79 (by decide) 12
                have w264 : dt255 79 13 = (u2 (u2 (u2 dt114 79 12 0) 79 19 (dt114 79 17)) 79 21 (-1)) 79 13 := hF257 79 (by decide) 13
                have w265 : dt255 79 14 = (u2 (u2 (u2 dt114 79 12 0) 79 19 (dt114 79 17)) 79 21 (-1)) 79 14 := hF257 79 (by decide) 14
                have w266 : dt255 79 15 = (u2 (u2 (u2 dt114 79 12 0) 79 19 (dt114 79 17)) 79 21 (-1)) 79 15 := hF257 79 (by decide) 15
                have E84267 : dt255 84 = dt114 84 := (funext (hF257 84 (by decide))).trans E84252
                rcases h254 with ⟨rfl, h254⟩
                have hM268 : MW (dt255 80) := h254.1
                obtain ⟨h254_0, h254_1, h254_2, h254_3, h254_4, h254_5, h254_6⟩ := h254
                have r269 : 0 ≤ dt255 79 10 ∧ dt255 79 10 ≤ 24 := InvC_get hI256 79 10 rfl rfl
                refine go_retq PM174 (k := 2) (r := some (.inl (dt255 79 10))) (w1 := (SH, dt255)) rfl ?_
                exact ⟨dt255, rfl, hI256, hF258, ⟨_, rfl, (by first | exact bnd r269 (by decide) (by decide) | exact ⟨by omega, by omega⟩), ⟨by first | exact True.intro | rfl | omega | trivial, by first | exact True.intro | rfl | omega | trivial, by first | assumption | exact hM, by first | rfl | exact congrFun E80253 0 | exact Eq.trans (by assumption) (congrFun E80253 0), by first | rfl | exact congrFun E80253 1 | exact Eq.trans (by assumption) (congrFun E80253 1), by first | rfl | exact congrFun E80253 2 | exact Eq.trans (by assumption) (congrFun E80253 2), by first | rfl | exact congrFun E80253 3 | exact Eq.trans (by assumption) (congrFun E80253 3), by first | rfl | exact congrFun E80253 4 | exact Eq.trans (by assumption) (congrFun E80253 4), by first | rfl | exact congrFun E80253 5 | exact Eq.trans (by assumption) (congrFun E80253 5)⟩⟩⟩
              · skip
                refine go_ifq PM174 (k := 1) (p1 := 97) (p2 := 90) (L' := [some (.inr (.inr (some 79))), some (.inl p1), some (.inl p2), some (.inl 1)]) (st' := []) (w' := (SH, dt114)) rfl (z_ne (a := p1) (by first | exact bnd h_p1 (by decide) (by decide) | exact ⟨by omega, by omega⟩)) (fun c270 => ?_) (fun c270 => ?_)
                · skip
                  refine go_toq PM174 (k := 1) (pc' := 98) (L' := [some (.inr (.inr (some 79))), some (.inl p1), some (.inl p2), some (.inl 1)]) (st' := [.inr (.inr (some 79))]) (w' := (SH, dt114)) rfl ?_
                  refine go_callq PM174 PM173 (Q' := _) rfl rfl rfl rfl (sp_X6_aLine L xs sio (d + 0) dt114 hI115   (by first | exact True.intro | rfl | omega | trivial | exact hI4 (by omega) (by omega) | exact hI5 (by omega) (by omega)) (by first | exact True.intro | rfl | omega | trivial | exact hI4 (by omega) (by omega) | exact hI5 (by omega) (by omega)) (by first | exact True.intro | rfl | omega | trivial | exact hI4 (by omega) (by omega) | exact hI5 (by omega) (by omega))) ?_
                  rintro _ _ ⟨dt272, rfl, hI273, hF274, h271⟩
                  refine ⟨rfl, ?_⟩
                  have hF275 : Fr [79, 80, 82, 83, 84] dt dt272 := Fr_tr hF116 hF274 (by decide)
                  have hM276 : MW (dt272 80) := MW_fr hM_dt114 hF274 (by decide)
                  have E80277 : dt272 80 = dt 80 := (funext (hF274 80 (by decide))).trans hE80
                  rcases h271 with ⟨rfl, h271⟩ | ⟨rfl, h271⟩
                  · skip
                    obtain ⟨h271_0, h271_1, h271_2⟩ := h271
                    have r278 : 0 ≤ dt272 79 10 ∧ dt272 79 10 ≤ 24 := InvC_get hI273 79 10 rfl rfl
                    refine go_toq PM174 (k := 8) (pc' := 117) (L' := [some (.inr (.inr (some 79))), some (.inl p1), some (.inl p2), some (.inl 0)]) (st' := [.inl ((dt272 79 10) + 0), .inr (.inr (some 79))]) (w' := (SH, dt272)) rfl ?_
                    have hI279 : InvC (u2 dt272 79 10 ((dt272 79 10) + 0)) := InvC_u2 hI273 (lo := 0) (hi := 24) rfl rfl rfl (by omega) (by omega)
                    have hF280 : Fr [79, 80, 82, 83, 84] dt (u2 dt272 79 10 ((dt272 79 10) + 0)) := Fr_u2 hF275 (by decide)
                    have w281 : (u2 dt272 79 10 ((dt272 79 10) + 0)) 79 2 = dt272 79 2 := rfl
                    have w282 : (u2 dt272 79 10 ((dt272 79 10) + 0)) 79 9 = dt272 79 9 := rfl
                    have w283 : (u2 dt272 79 10 ((dt272 79 10) + 0)) 79 10 = (dt272 79 10) + 0 := rfl
                    have w284 : (u2 dt272 79 10 ((dt272 79 10) + 0)) 79 11 = dt272 79 11 := rfl
                    have w285 : (u2 dt272 79 10 ((dt272 79 10) + 0)) 79 12 = dt272 79 12 := rfl
                    have w286 : (u2 dt272 79 10 ((dt272 79 10) + 0)) 79 13 = dt272 79 13 := rfl
                    have w287 : (u2 dt272 79 10 ((dt272 79 10) + 0)) 79 14 = dt272 79 14 := rfl
                    have w288 : (u2 dt272 79 10 ((dt272 79 10) + 0)) 79 15 = dt272 79 15 := rfl
                    have E84289 : (u2 dt272 79 10 ((dt272 79 10) + 0)) 84 = dt272 84 := funext fun _ => rfl
                    have E80290 : (u2 dt272 79 10 ((dt272 79 10) + 0)) 80 = dt 80 := (funext fun _ => u2_ne (fun z => absurd z.1 (by decide))).trans E80277
                    refine go_smpq PM174 (L' := [some (.inr (.inr (some 79))), some (.inl p1), some (.inl p2), some (.inl 0)]) (st' := []) (w' := (SH, (u2 dt272 79 10 ((dt272 79 10) + 0)))) rfl rfl (s_pf rfl rfl rfl rfl (by first | exact bndp r278 (by decide) (by decide) | exact ⟨by omega, by omega⟩)) ?_
                    refine go_toq PM174 (k := 1) (pc' := 75) (L' := [some (.inr (.inr (some 79))), some (.inl p1), some (.inl p2), some (.inl 0)]) (st' := []) (w' := (SH, (u2 dt272 79 10 ((dt272 79 10) + 0)))) rfl ?_
                    exact GO.le (ih_loop127 0 (u2 dt272 79 10 ((dt272 79 10) + 0)) hI279 hF280 hM276 ⟨by decide, by decide⟩ (by omega) (by first | omega | exact (InvC_get (by assumption) 79 15 rfl rfl).2) (by omega) (by omega) (by intro _ hz; first | omega | exact ARW_0 (by omega) | exact ARW_s (hI4 (by omega) hz) (by omega) (by assumption) (by assumption) (by omega)) (by intro _ hz; first | omega | exact LRW_0 (by omega) | exact LRW_s (hI5 (by omega) hz) (by omega) (by assumption) (by assumption) (by assumption) (by omega) (by omega)) (by omega) (by omega) (by exact E80290) (by omega)) ⟨.inl rfl, .inl rfl, .inl rfl, .inl rfl, trivial⟩
                  · skip
                    obtain ⟨h271_0, h271_1, h271_2, h271_3, h271_4, h271_5, h271_6, h271_7, h271_8, h271_9, h271_10, h271_11, h271_12⟩ := h271
                    have r291 : 0 ≤ dt272 79 10 ∧ dt272 79 10 ≤ 24 := InvC_get hI273 79 10 rfl rfl
                    refine go_toq PM174 (k := 9) (pc' := 117) (L' := [some (.inr (.inr (some 79))), some (.inl p1), some (.inl p2), some (.inl 1)]) (st' := [.inl ((dt272 79 10) + 1), .inr (.inr (some 79))]) (w' := (SH, dt272)) rfl ?_
                    have hI292 : InvC (u2 dt272 79 10 ((dt272 79 10) + 1)) := InvC_u2 hI273 (lo := 0) (hi := 24) rfl rfl rfl (by omega) (by omega)
                    have hF293 : Fr [79, 80, 82, 83, 84] dt (u2 dt272 79 10 ((dt272 79 10) + 1)) := Fr_u2 hF275 (by decide)
                    have w294 : (u2 dt272 79 10 ((dt272 79 10) + 1)) 79 2 = dt272 79 2 := rfl
                    have w295 : (u2 dt272 79 10 ((dt272 79 10) + 1)) 79 9 = dt272 79 9 := rfl
                    have w296 : (u2 dt272 79 10 ((dt272 79 10) + 1)) 79 10 = (dt272 79 10) + 1 := rfl
                    have w297 : (u2 dt272 79 10 ((dt272 79 10) + 1)) 79 11 = dt272 79 11 := rfl
                    have w298 : (u2 dt272 79 10 ((dt272 79 10) + 1)) 79 12 = dt272 79 12 := rfl
                    have w299 : (u2 dt272 79 10 ((dt272 79 10) + 1)) 79 13 = dt272 79 13 := rfl
                    have w300 : (u2 dt272 79 10 ((dt272 79 10) + 1)) 79 14 = dt272 79 14 := rfl
                    have w301 : (u2 dt272 79 10 ((dt272 79 10) + 1)) 79 15 = dt272 79 15 := rfl
                    have E84302 : (u2 dt272 79 10 ((dt272 79 10) + 1)) 84 = dt272 84 := funext fun _ => rfl
                    have E80303 : (u2 dt272 79 10 ((dt272 79 10) + 1)) 80 = dt 80 := (funext fun _ => u2_ne (fun z => absurd z.1 (by decide))).trans E80277
                    refine go_smpq PM174 (L' := [some (.inr (.inr (some 79))), some (.inl p1), some (.inl p2), some (.inl 1)]) (st' := []) (w' := (SH, (u2 dt272 79 10 ((dt272 79 10) + 1)))) rfl rfl (s_pf rfl rfl rfl rfl (by first | exact bndp r291 (by decide) (by decide) | exact ⟨by omega, by omega⟩)) ?_
                    refine go_toq PM174 (k := 1) (pc' := 75) (L' := [some (.inr (.inr (some 79))), some (.inl p1), some (.inl p2), some (.inl 1)]) (st' := []) (w' := (SH, (u2 dt272 79 10 ((dt272 79 10) + 1)))) rfl ?_
                    exact GO.le (ih_loop127 1 (u2 dt272 79 10 ((dt272 79 10) + 1)) hI292 hF293 hM276 ⟨by decide, by decide⟩ (by omega) (by first | omega | exact (InvC_get (by assumption) 79 15 rfl rfl).2) (by omega) (by omega) (by intro _ hz; first | omega | exact ARW_0 (by omega) | exact ARW_s (hI4 (by omega) hz) (by omega) (by assumption) (by assumption) (by omega)) (by intro _ hz; first | omega | exact LRW_0 (by omega) | exact LRW_s (hI5 (by omega) hz) (by omega) (by assumption) (by assumption) (by assumption) (by omega) (by omega)) (by omega) (by omega) (by exact E80303) (by omega)) ⟨.inl rfl, .inl rfl, .inl rfl, .inl rfl, trivial⟩
                · exfalso; omega
        exact GO.le (loop127 _ 1 dt68 hI69 hF71 hM72 ⟨by decide, by decide⟩ (by omega) (by first | omega | exact (InvC_get (by assumption) 79 15 rfl rfl).2) (by omega) (by omega) (by intro _ hz; first | omega | exact ARW_0 (by omega) | exact ARW_s (hI4 (by omega) hz) (by omega) (by assumption) (by assumption) (by omega)) (by intro _ hz; first | omega | exact LRW_0 (by omega) | exact LRW_s (hI5 (by omega) hz) (by omega) (by assumption) (by assumption) (by assumption) (by omega) (by omega)) (by omega) (by omega) (by exact E8073) (Nat.lt_succ_self _)) ⟨.inl rfl, .inl rfl, .inl rfl, .inl rfl, trivial⟩
      · skip
        refine go_toq PM174 (k := 3) (pc' := 34) (L' := [some (.inr (.inr (some 79))), some (.inl p1), some (.inl p2), none]) (st' := [.inl 0, .inr (.inr (some 79))]) (w' := (SH, (u2 dt 79 17 0))) rfl ?_
        have hI304 : InvC (u2 (u2 dt 79 17 0) 79 12 0) := InvC_u2 hI4 (lo := 0) (hi := 500) rfl rfl rfl (by decide) (by decide)
        have hF305 : Fr [79, 80, 82, 83, 84] dt (u2 (u2 dt 79 17 0) 79 12 0) := Fr_u2 hF5 (by decide)
        have w306 : (u2 (u2 dt 79 17 0) 79 12 0) 79 2 = (u2 dt 79 17 0) 79 2 := rfl
        have w307 : (u2 (u2 dt 79 17 0) 79 12 0) 79 9 = (u2 dt 79 17 0) 79 9 := rfl
        have w308 : (u2 (u2 dt 79 17 0) 79 12 0) 79 10 = (u2 dt 79 17 0) 79 10 := rfl
        have w309 : (u2 (u2 dt 79 17 0) 79 12 0) 79 11 = (u2 dt 79 17 0) 79 11 := rfl
        have w310 : (u2 (u2 dt 79 17 0) 79 12 0) 79 12 = 0 := rfl
        have w311 : (u2 (u2 dt 79 17 0) 79 12 0) 79 13 = (u2 dt 79 17 0) 79 13 := rfl
        have w312 : (u2 (u2 dt 79 17 0) 79 12 0) 79 14 = (u2 dt 79 17 0) 79 14 := rfl
        have w313 : (u2 (u2 dt 79 17 0) 79 12 0) 79 15 = (u2 dt 79 17 0) 79 15 := rfl
        have E84314 : (u2 (u2 dt 79 17 0) 79 12 0) 84 = dt 84 := (funext fun _ => rfl).trans E8414
        have E80315 : (u2 (u2 dt 79 17 0) 79 12 0) 80 = dt 80 := (funext fun _ => u2_ne (fun z => absurd z.1 (by decide))).trans E8015
        refine go_smpq PM174 (L' := [some (.inr (.inr (some 79))), some (.inl p1), some (.inl p2), none]) (st' := []) (w' := (SH, (u2 (u2 dt 79 17 0) 79 12 0))) rfl rfl (s_pf rfl rfl rfl rfl ⟨by decide, by decide⟩) ?_
        refine go_toq PM174 (k := 2) (pc' := 39) (L' := [some (.inr (.inr (some 79))), some (.inl p1), some (.inl p2), none]) (st' := [.inl 0, .inr (.inr (some 79))]) (w' := (SH, (u2 (u2 dt 79 17 0) 79 12 0))) rfl ?_
        have hI316 : InvC (u2 (u2 (u2 dt 79 17 0) 79 12 0) 79 19 0) := InvC_u2 hI304 (lo := -2147483648) (hi := 2147483647) rfl rfl rfl (by decide) (by decide)
        have hF317 : Fr [79, 80, 82, 83, 84] dt (u2 (u2 (u2 dt 79 17 0) 79 12 0) 79 19 0) := Fr_u2 hF305 (by decide)
        have w318 : (u2 (u2 (u2 dt 79 17 0) 79 12 0) 79 19 0) 79 2 = (u2 (u2 dt 79 17 0) 79 12 0) 79 2 := rfl
        have w319 : (u2 (u2 (u2 dt 79 17 0) 79 12 0) 79 19 0) 79 9 = (u2 (u2 dt 79 17 0) 79 12 0) 79 9 := rfl
        have w320 : (u2 (u2 (u2 dt 79 17 0) 79 12 0) 79 19 0) 79 10 = (u2 (u2 dt 79 17 0) 79 12 0) 79 10 := rfl
        have w321 : (u2 (u2 (u2 dt 79 17 0) 79 12 0) 79 19 0) 79 11 = (u2 (u2 dt 79 17 0) 79 12 0) 79 11 := rfl
        have w322 : (u2 (u2 (u2 dt 79 17 0) 79 12 0) 79 19 0) 79 12 = (u2 (u2 dt 79 17 0) 79 12 0) 79 12 := rfl
        have w323 : (u2 (u2 (u2 dt 79 17 0) 79 12 0) 79 19 0) 79 13 = (u2 (u2 dt 79 17 0) 79 12 0) 79 13 := rfl
        have w324 : (u2 (u2 (u2 dt 79 17 0) 79 12 0) 79 19 0) 79 14 = (u2 (u2 dt 79 17 0) 79 12 0) 79 14 := rfl
        have w325 : (u2 (u2 (u2 dt 79 17 0) 79 12 0) 79 19 0) 79 15 = (u2 (u2 dt 79 17 0) 79 12 0) 79 15 := rfl
        have E84326 : (u2 (u2 (u2 dt 79 17 0) 79 12 0) 79 19 0) 84 = dt 84 := (funext fun _ => rfl).trans E84314
        have E80327 : (u2 (u2 (u2 dt 79 17 0) 79 12 0) 79 19 0) 80 = dt 80 := (funext fun _ => u2_ne (fun z => absurd z.1 (by decide))).trans E80315
        refine go_smpq PM174 (L' := [some (.inr (.inr (some 79))), some (.inl p1), some (.inl p2), none]) (st' := []) (w' := (SH, (u2 (u2 (u2 dt 79 17 0) 79 12 0) 79 19 0))) rfl rfl (s_pf rfl rfl rfl rfl ⟨by decide, by decide⟩) ?_
        refine go_toq PM174 (k := 2) (pc' := 44) (L' := [some (.inr (.inr (some 79))), some (.inl p1), some (.inl p2), none]) (st' := [.inl (-1), .inr (.inr (some 79))]) (w' := (SH, (u2 (u2 (u2 dt 79 17 0) 79 12 0) 79 19 0))) rfl ?_
        have hI328 : InvC (u2 (u2 (u2 (u2 dt 79 17 0) 79 12 0) 79 19 0) 79 21 (-1)) := InvC_u2 hI316 (lo := -2147483648) (hi := 2147483647) rfl rfl rfl (by decide) (by decide)
        have hF329 : Fr [79, 80, 82, 83, 84] dt (u2 (u2 (u2 (u2 dt 79 17 0) 79 12 0) 79 19 0) 79 21 (-1)) := Fr_u2 hF317 (by decide)
        have w330 : (u2 (u2 (u2 (u2 dt 79 17 0) 79 12 0) 79 19 0) 79 21 (-1)) 79 2 = (u2 (u2 (u2 dt 79 17 0) 79 12 0) 79 19 0) 79 2 := rfl
        have w331 : (u2 (u2 (u2 (u2 dt 79 17 0) 79 12 0) 79 19 0) 79 21 (-1)) 79 9 = (u2 (u2 (u2 dt 79 17 0) 79 12 0) 79 19 0) 79 9 := rfl
        have w332 : (u2 (u2 (u2 (u2 dt 79 17 0) 79 12 0) 79 19 0) 79 21 (-1)) 79 10 = (u2 (u2 (u2 dt 79 17 0) 79 12 0) 79 19 0) 79 10 := rfl
        have w333 : (u2 (u2 (u2 (u2 dt 79 17 0) 79 12 0) 79 19 0) 79 21 (-1)) 79 11 = (u2 (u2 (u2 dt 79 17 0) 79 12 0) 79 19 0) 79 11 := rfl
        have w334 : (u2 (u2 (u2 (u2 dt 79 17 0) 79 12 0) 79 19 0) 79 21 (-1)) 79 12 = (u2 (u2 (u2 dt 79 17 0) 79 12 0) 79 19 0) 79 12 := rfl
        have w335 : (u2 (u2 (u2 (u2 dt 79 17 0) 79 12 0) 79 19 0) 79 21 (-1)) 79 13 = (u2 (u2 (u2 dt 79 17 0) 79 12 0) 79 19 0) 79 13 := rfl
        have w336 : (u2 (u2 (u2 (u2 dt 79 17 0) 79 12 0) 79 19 0) 79 21 (-1)) 79 14 = (u2 (u2 (u2 dt 79 17 0) 79 12 0) 79 19 0) 79 14 := rfl
        have w337 : (u2 (u2 (u2 (u2 dt 79 17 0) 79 12 0) 79 19 0) 79 21 (-1)) 79 15 = (u2 (u2 (u2 dt 79 17 0) 79 12 0) 79 19 0) 79 15 := rfl
        have E84338 : (u2 (u2 (u2 (u2 dt 79 17 0) 79 12 0) 79 19 0) 79 21 (-1)) 84 = dt 84 := (funext fun _ => rfl).trans E84326
        have E80339 : (u2 (u2 (u2 (u2 dt 79 17 0) 79 12 0) 79 19 0) 79 21 (-1)) 80 = dt 80 := (funext fun _ => u2_ne (fun z => absurd z.1 (by decide))).trans E80327
        refine go_smpq PM174 (L' := [some (.inr (.inr (some 79))), some (.inl p1), some (.inl p2), none]) (st' := []) (w' := (SH, (u2 (u2 (u2 (u2 dt 79 17 0) 79 12 0) 79 19 0) 79 21 (-1)))) rfl rfl (s_pf rfl rfl rfl rfl ⟨by decide, by decide⟩) ?_
        refine go_retq PM174 (k := 1) (r := some (.inl (-1))) (w1 := (SH, (u2 (u2 (u2 (u2 dt 79 17 0) 79 12 0) 79 19 0) 79 21 (-1)))) rfl ?_
        exact ⟨(u2 (u2 (u2 (u2 dt 79 17 0) 79 12 0) 79 19 0) 79 21 (-1)), rfl, hI328, hF329, ⟨_, rfl, ⟨by decide, by decide⟩, ⟨by first | exact True.intro | rfl | omega | trivial, by first | exact True.intro | rfl | omega | trivial, by first | assumption | exact hM, by first | rfl | exact congrFun E80339 0 | exact Eq.trans (by assumption) (congrFun E80339 0), by first | rfl | exact congrFun E80339 1 | exact Eq.trans (by assumption) (congrFun E80339 1), by first | rfl | exact congrFun E80339 2 | exact Eq.trans (by assumption) (congrFun E80339 2), by first | rfl | exact congrFun E80339 3 | exact Eq.trans (by assumption) (congrFun E80339 3), by first | rfl | exact congrFun E80339 4 | exact Eq.trans (by assumption) (congrFun E80339 4), by first | rfl | exact congrFun E80339 5 | exact Eq.trans (by assumption) (congrFun E80339 5)⟩⟩⟩
    · skip
      refine go_toq PM174 (k := 2) (pc' := 26) (L' := [some (.inr (.inr (some 79))), some (.inl p1), some (.inl p2), none]) (st' := [.inl 7, .inl 0, .inl p2]) (w' := (SH, (u2 dt 79 17 0))) rfl ?_
      refine go_callq PM174 PM146 (Q' := _) rfl rfl rfl rfl (sp_X6_isIn L xs sio (d + 37) (u2 dt 79 17 0) hI4  p2 (by first | exact h_p2 | exact bnd h_p2 (by decide) (by decide) | exact ⟨by omega, by omega⟩) 0 ⟨by decide, by decide⟩ 7 ⟨by decide, by decide⟩ ) ?_
      rintro _ _ ⟨rfl, h340⟩
      refine ⟨rfl, ?_⟩
      rcases h340 with ⟨rfl, h340⟩ | ⟨rfl, h340⟩
      · skip
        refine go_toq PM174 (k := 3) (pc' := 51) (L' := [some (.inr (.inr (some 79))), some (.inl p1), some (.inl p2), none]) (st' := [.inl p1, .inr (.inr (some 79))]) (w' := (SH, (u2 dt 79 17 0))) rfl ?_
        have hI341 : InvC (u2 (u2 dt 79 17 0) 79 9 p1) := InvC_u2 hI4 (lo := 0) (hi := 1) rfl rfl rfl (by first | exact bnd1 h_p1 (by decide) | omega) (by first | exact bnd2 h_p1 (by decide) | omega)
        have hF342 : Fr [79, 80, 82, 83, 84] dt (u2 (u2 dt 79 17 0) 79 9 p1) := Fr_u2 hF5 (by decide)
        have w343 : (u2 (u2 dt 79 17 0) 79 9 p1) 79 2 = (u2 dt 79 17 0) 79 2 := rfl
        have w344 : (u2 (u2 dt 79 17 0) 79 9 p1) 79 9 = p1 := rfl
        have w345 : (u2 (u2 dt 79 17 0) 79 9 p1) 79 10 = (u2 dt 79 17 0) 79 10 := rfl
        have w346 : (u2 (u2 dt 79 17 0) 79 9 p1) 79 11 = (u2 dt 79 17 0) 79 11 := rfl
        have w347 : (u2 (u2 dt 79 17 0) 79 9 p1) 79 12 = (u2 dt 79 17 0) 79 12 := rfl
        have w348 : (u2 (u2 dt 79 17 0) 79 9 p1) 79 13 = (u2 dt 79 17 0) 79 13 := rfl
        have w349 : (u2 (u2 dt 79 17 0) 79 9 p1) 79 14 = (u2 dt 79 17 0) 79 14 := rfl
        have w350 : (u2 (u2 dt 79 17 0) 79 9 p1) 79 15 = (u2 dt 79 17 0) 79 15 := rfl
        have E84351 : (u2 (u2 dt 79 17 0) 79 9 p1) 84 = dt 84 := (funext fun _ => rfl).trans E8414
        have E80352 : (u2 (u2 dt 79 17 0) 79 9 p1) 80 = dt 80 := (funext fun _ => u2_ne (fun z => absurd z.1 (by decide))).trans E8015
        refine go_smpq PM174 (L' := [some (.inr (.inr (some 79))), some (.inl p1), some (.inl p2), none]) (st' := []) (w' := (SH, (u2 (u2 dt 79 17 0) 79 9 p1))) rfl rfl (s_pf rfl rfl rfl rfl (by first | exact bnd h_p1 (by decide) (by decide) | exact ⟨by omega, by omega⟩)) ?_
        refine go_toq PM174 (k := 2) (pc' := 56) (L' := [some (.inr (.inr (some 79))), some (.inl p1), some (.inl p2), none]) (st' := [.inl 0, .inr (.inr (some 79))]) (w' := (SH, (u2 (u2 dt 79 17 0) 79 9 p1))) rfl ?_
        have hI353 : InvC (u2 (u2 (u2 dt 79 17 0) 79 9 p1) 79 13 0) := InvC_u2 hI341 (lo := 0) (hi := 501) rfl rfl rfl (by decide) (by decide)
        have hF354 : Fr [79, 80, 82, 83, 84] dt (u2 (u2 (u2 dt 79 17 0) 79 9 p1) 79 13 0) := Fr_u2 hF342 (by decide)
        have w355 : (u2 (u2 (u2 dt 79 17 0) 79 9 p1) 79 13 0) 79 2 = (u2 (u2 dt 79 17 0) 79 9 p1) 79 2 := rfl
        have w356 : (u2 (u2 (u2 dt 79 17 0) 79 9 p1) 79 13 0) 79 9 = (u2 (u2 dt 79 17 0) 79 9 p1) 79 9 := rfl
        have w357 : (u2 (u2 (u2 dt 79 17 0) 79 9 p1) 79 13 0) 79 10 = (u2 (u2 dt 79 17 0) 79 9 p1) 79 10 := rfl
        have w358 : (u2 (u2 (u2 dt 79 17 0) 79 9 p1) 79 13 0) 79 11 = (u2 (u2 dt 79 17 0) 79 9 p1) 79 11 := rfl
        have w359 : (u2 (u2 (u2 dt 79 17 0) 79 9 p1) 79 13 0) 79 12 = (u2 (u2 dt 79 17 0) 79 9 p1) 79 12 := rfl
        have w360 : (u2 (u2 (u2 dt 79 17 0) 79 9 p1) 79 13 0) 79 13 = 0 := rfl
        have w361 : (u2 (u2 (u2 dt 79 17 0) 79 9 p1) 79 13 0) 79 14 = (u2 (u2 dt 79 17 0) 79 9 p1) 79 14 := rfl
        have w362 : (u2 (u2 (u2 dt 79 17 0) 79 9 p1) 79 13 0) 79 15 = (u2 (u2 dt 79 17 0) 79 9 p1) 79 15 := rfl
        have E84363 : (u2 (u2 (u2 dt 79 17 0) 79 9 p1) 79 13 0) 84 = dt 84 := (funext fun _ => rfl).trans E84351
        have E80364 : (u2 (u2 (u2 dt 79 17 0) 79 9 p1) 79 13 0) 80 = dt 80 := (funext fun _ => u2_ne (fun z => absurd z.1 (by decide))).trans E80352
        refine go_smpq PM174 (L' := [some (.inr (.inr (some 79))), some (.inl p1), some (.inl p2), none]) (st' := []) (w' := (SH, (u2 (u2 (u2 dt 79 17 0) 79 9 p1) 79 13 0))) rfl rfl (s_pf rfl rfl rfl rfl ⟨by decide, by decide⟩) ?_
        refine go_toq PM174 (k := 2) (pc' := 61) (L' := [some (.inr (.inr (some 79))), some (.inl p1), some (.inl p2), none]) (st' := [.inl 0, .inr (.inr (some 79))]) (w' := (SH, (u2 (u2 (u2 dt 79 17 0) 79 9 p1) 79 13 0))) rfl ?_
        have hI365 : InvC (u2 (u2 (u2 (u2 dt 79 17 0) 79 9 p1) 79 13 0) 79 10 0) := InvC_u2 hI353 (lo := 0) (hi := 24) rfl rfl rfl (by decide) (by decide)
        have hF366 : Fr [79, 80, 82, 83, 84] dt (u2 (u2 (u2 (u2 dt 79 17 0) 79 9 p1) 79 13 0) 79 10 0) := Fr_u2 hF354 (by decide)
        have w367 : (u2 (u2 (u2 (u2 dt 79 17 0) 79 9 p1) 79 13 0) 79 10 0) 79 2 = (u2 (u2 (u2 dt 79 17 0) 79 9 p1) 79 13 0) 79 2 := rfl
        have w368 : (u2 (u2 (u2 (u2 dt 79 17 0) 79 9 p1) 79 13 0) 79 10 0) 79 9 = (u2 (u2 (u2 dt 79 17 0) 79 9 p1) 79 13 0) 79 9 := rfl
        have w369 : (u2 (u2 (u2 (u2 dt 79 17 0) 79 9 p1) 79 13 0) 79 10 0) 79 10 = 0 := rfl
        have w370 : (u2 (u2 (u2 (u2 dt 79 17 0) 79 9 p1) 79 13 0) 79 10 0) 79 11 = (u2 (u2 (u2 dt 79 17 0) 79 9 p1) 79 13 0) 79 11 := rfl
        have w371 : (u2 (u2 (u2 (u2 dt 79 17 0) 79 9 p1) 79 13 0) 79 10 0) 79 12 = (u2 (u2 (u2 dt 79 17 0) 79 9 p1) 79 13 0) 79 12 := rfl
        have w372 : (u2 (u2 (u2 (u2 dt 79 17 0) 79 9 p1) 79 13 0) 79 10 0) 79 13 = (u2 (u2 (u2 dt 79 17 0) 79 9 p1) 79 13 0) 79 13 := rfl
        have w373 : (u2 (u2 (u2 (u2 dt 79 17 0) 79 9 p1) 79 13 0) 79 10 0) 79 14 = (u2 (u2 (u2 dt 79 17 0) 79 9 p1) 79 13 0) 79 14 := rfl
        have w374 : (u2 (u2 (u2 (u2 dt 79 17 0) 79 9 p1) 79 13 0) 79 10 0) 79 15 = (u2 (u2 (u2 dt 79 17 0) 79 9 p1) 79 13 0) 79 15 := rfl
        have E84375 : (u2 (u2 (u2 (u2 dt 79 17 0) 79 9 p1) 79 13 0) 79 10 0) 84 = dt 84 := (funext fun _ => rfl).trans E84363
        have E80376 : (u2 (u2 (u2 (u2 dt 79 17 0) 79 9 p1) 79 13 0) 79 10 0) 80 = dt 80 := (funext fun _ => u2_ne (fun z => absurd z.1 (by decide))).trans E80364
        refine go_smpq PM174 (L' := [some (.inr (.inr (some 79))), some (.inl p1), some (.inl p2), none]) (st' := []) (w' := (SH, (u2 (u2 (u2 (u2 dt 79 17 0) 79 9 p1) 79 13 0) 79 10 0))) rfl rfl (s_pf rfl rfl rfl rfl ⟨by decide, by decide⟩) ?_
        refine go_toq PM174 (k := 2) (pc' := 66) (L' := [some (.inr (.inr (some 79))), some (.inl p1), some (.inl p2), none]) (st' := [.inl 0, .inr (.inr (some 79))]) (w' := (SH, (u2 (u2 (u2 (u2 dt 79 17 0) 79 9 p1) 79 13 0) 79 10 0))) rfl ?_
        have hI377 : InvC (u2 (u2 (u2 (u2 (u2 dt 79 17 0) 79 9 p1) 79 13 0) 79 10 0) 79 11 0) := InvC_u2 hI365 (lo := 0) (hi := 510) rfl rfl rfl (by decide) (by decide)
        have hF378 : Fr [79, 80, 82, 83, 84] dt (u2 (u2 (u2 (u2 (u2 dt 79 17 0) 79 9 p1) 79 13 0) 79 10 0) 79 11 0) := Fr_u2 hF366 (by decide)
        have w379 : (u2 (u2 (u2 (u2 (u2 dt 79 17 0) 79 9 p1) 79 13 0) 79 10 0) 79 11 0) 79 2 = (u2 (u2 (u2 (u2 dt 79 17 0) 79 9 p1) 79 13 0) 79 10 0) 79 2 := rfl
        have w380 : (u2 (u2 (u2 (u2 (u2 dt 79 17 0) 79 9 p1) 79 13 0) 79 10 0) 79 11 0) 79 9 = (u2 (u2 (u2 (u2 dt 79 17 0) 79 9 p1) 79 13 0) 79 10 0) 79 9 := rfl
        have w381 : (u2 (u2 (u2 (u2 (u2 dt 79 17 0) 79 9 p1) 79 13 0) 79 10 0) 79 11 0) 79 10 = (u2 (u2 (u2 (u2 dt 79 17 0) 79 9 p1) 79 13 0) 79 10 0) 79 10 := rfl
        have w382 : (u2 (u2 (u2 (u2 (u2 dt 79 17 0) 79 9 p1) 79 13 0) 79 10 0) 79 11 0) 79 11 = 0 := rfl
        have w383 : (u2 (u2 (u2 (u2 (u2 dt 79 17 0) 79 9 p1) 79 13 0) 79 10 0) 79 11 0) 79 12 = (u2 (u2 (u2 (u2 dt 79 17 0) 79 9 p1) 79 13 0) 79 10 0) 79 12 := rfl
        have w384 : (u2 (u2 (u2 (u2 (u2 dt 79 17 0) 79 9 p1) 79 13 0) 79 10 0) 79 11 0) 79 13 = (u2 (u2 (u2 (u2 dt 79 17 0) 79 9 p1) 79 13 0) 79 10 0) 79 13 := rfl
        have w385 : (u2 (u2 (u2 (u2 (u2 dt 79 17 0) 79 9 p1) 79 13 0) 79 10 0) 79 11 0) 79 14 = (u2 (u2 (u2 (u2 dt 79 17 0) 79 9 p1) 79 13 0) 79 10 0) 79 14 := rfl
        have w386 : (u2 (u2 (u2 (u2 (u2 dt 79 17 0) 79 9 p1) 79 13 0) 79 10 0) 79 11 0) 79 15 = (u2 (u2 (u2 (u2 dt 79 17 0) 79 9 p1) 79 13 0) 79 10 0) 79 15 := rfl
        have E84387 : (u2 (u2 (u2 (u2 (u2 dt 79 17 0) 79 9 p1) 79 13 0) 79 10 0) 79 11 0) 84 = dt 84 := (funext fun _ => rfl).trans E84375
        have E80388 : (u2 (u2 (u2 (u2 (u2 dt 79 17 0) 79 9 p1) 79 13 0) 79 10 0) 79 11 0) 80 = dt 80 := (funext fun _ => u2_ne (fun z => absurd z.1 (by decide))).trans E80376
        refine go_smpq PM174 (L' := [some (.inr (.inr (some 79))), some (.inl p1), some (.inl p2), none]) (st' := []) (w' := (SH, (u2 (u2 (u2 (u2 (u2 dt 79 17 0) 79 9 p1) 79 13 0) 79 10 0) 79 11 0))) rfl rfl (s_pf rfl rfl rfl rfl ⟨by decide, by decide⟩) ?_
        refine go_toq PM174 (k := 1) (pc' := 70) (L' := [some (.inr (.inr (some 79))), some (.inl p1), some (.inl p2), none]) (st' := [.inr (.inr (some 79))]) (w' := (SH, (u2 (u2 (u2 (u2 (u2 dt 79 17 0) 79 9 p1) 79 13 0) 79 10 0) 79 11 0))) rfl ?_
        refine go_callq PM174 PM159 (Q' := _) rfl rfl rfl rfl (sp_X6_next0 L xs sio (d + 31) (u2 (u2 (u2 (u2 (u2 dt 79 17 0) 79 9 p1) 79 13 0) 79 10 0) 79 11 0) hI377   (by first | exact True.intro | rfl | omega | trivial | exact hI4 (by omega) (by omega) | exact hI5 (by omega) (by omega))) ?_
        rintro _ _ ⟨dt390, rfl, hI391, hF392, h389⟩
        refine ⟨rfl, ?_⟩
        have hF393 : Fr [79, 80, 82, 83, 84] dt dt390 := Fr_tr hF378 hF392 (by decide)
        have hM394 : MW (dt390 80) := MW_fr (d0 := (u2 (u2 (u2 (u2 (u2 dt 79 17 0) 79 9 p1) 79 13 0) 79 10 0) 79 11 0)) hM hF392 (by decide)
        have E80395 : dt390 80 = dt 80 := (funext (hF392 80 (by decide))).trans E80388
        have E84396 : dt390 84 = dt 84 := (funext (hF392 84 (by decide))).trans E84387
        rcases h389 with ⟨rfl, h389⟩
        obtain ⟨h389_0, h389_1, h389_2, h389_3, h389_4, h389_5, h389_6, h389_7, h389_8⟩ := h389
        refine go_toq PM174 (k := 2) (pc' := 75) (L' := [some (.inr (.inr (some 79))), some (.inl p1), some (.inl p2), some (.inl 1)]) (st' := []) (w' := (SH, dt390)) rfl ?_
        have loop483 : ∀ (k_ : Nat) (l75_3 : Int) (dt470 : Nat → Nat → Int) (hI471 : InvC dt470) (hF472 : Fr [79, 80, 82, 83, 84] dt dt470) (hM_dt470 : MW (dt470 80)) (i473 : 0 ≤ l75_3 ∧ l75_3 ≤ 1) (i474 : l75_3 = 1 → (¬ dt470 79 14 = 0 → dt470 79 15 + 1 ≤ dt470 79 13) ∧ dt470 79 13 ≤ 500) (i475 : dt470 79 15 ≤ 500) (i476 : l75_3 = 1 → dt470 79 11 ≤ dt470 79 15) (i477 : l75_3 = 1 → p1 = 1 → dt470 79 10 ≤ 16) (i478 : l75_3 = 1 → p1 = 0 → ARW (dt470 82) (dt470 79 10)) (i479 : l75_3 = 1 → p1 = 1 → LRW (dt470 83) (dt470 84) (dt470 79 10) (dt470 79 11)) (i480 : dt470 79 2 = dt 79 2) (i481 : dt470 79 9 = p1) (i482 : dt470 80 = dt 80), (l75_3 * (502 - dt470 79 15)).toNat < k_ → GO (am_XX L xs sio) (d + 38) 174 75 [some (.inr (.inr (some 79))), some (.inl p1), some (.inl p2), some (.inl l75_3)] [] (SH, dt470) (fun r w2 => ∃ dt2 : Nat → Nat → Int, w2 = (SH, dt2) ∧ InvC dt2 ∧ Fr [79, 80, 82, 83, 84] dt dt2 ∧ ((∃ v : Int, r = some (.inl v) ∧ ((-1) ≤ v ∧ v ≤ 24) ∧ (dt2 79 12 = 0) ∧ (dt2 79 2 = dt 79 2) ∧ (MW (dt2 80)) ∧ (dt2 80 0 = dt 80 0) ∧ (dt2 80 1 = dt 80 1) ∧ (dt2 80 2 = dt 80 2) ∧ (dt2 80 3 = dt 80 3) ∧ (dt2 80 4 = dt 80 4) ∧ (dt2 80 5 = dt 80 5)))) := by
          intro k_
          induction k_ with
          | zero => intro l75_3 dt470 hI471 hF472 hM_dt470 i473 i474 i475 i476 i477 i478 i479 i480 i481 i482 hm; exact absurd hm (Nat.not_lt_zero _)
          | succ k_ ih_loop483 =>
            intro l75_3 dt470 hI471 hF472 hM_dt470 i473 i474 i475 i476 i477 i478 i479 i480 i481 i482 hm
            have q10 : 0 ≤ dt470 79 10 ∧ dt470 79 10 ≤ 24 := InvC_get (by assumption) 79 10 rfl rfl
            have q11 : 0 ≤ dt470 79 11 ∧ dt470 79 11 ≤ 510 := InvC_get (by assumption) 79 11 rfl rfl
            have hE80 := i482
            have hI4 := i478
            have hI5 := i479
            have hm1 : l75_3 = 1 → (l75_3 * (502 - dt470 79 15)).toNat = (502 - dt470 79 15).toNat := fun e => by rw [e, Int.one_mul]
            refine go_ifq PM174 (k := 1) (p1 := 123) (p2 := 79) (L' := [some (.inr (.inr (some 79))), some (.inl p1), some (.inl p2), some (.inl l75_3)]) (st' := []) (w' := (SH, dt470)) rfl (z_eq (a := l75_3) (by first | exact bnd i473 (by decide) (by decide) | exact ⟨by omega, by omega⟩)) (fun c484 => ?_) (fun c484 => ?_)
            · skip
              refine go_toq PM174 (k := 2) (pc' := 125) (L' := [some (.inr (.inr (some 79))), some (.inl p1), some (.inl p2), some (.inl l75_3)]) (st' := [.inl 0, .inr (.inr (some 79))]) (w' := (SH, dt470)) rfl ?_
              have hI485 : InvC (u2 dt470 79 12 0) := InvC_u2 hI471 (lo := 0) (hi := 500) rfl rfl rfl (by decide) (by decide)
              have hF486 : Fr [79, 80, 82, 83, 84] dt (u2 dt470 79 12 0) := Fr_u2 hF472 (by decide)
              have w487 : (u2 dt470 79 12 0) 79 2 = dt470 79 2 := rfl
              have w488 : (u2 dt470 79 12 0) 79 9 = dt470 79 9 := rfl
              have w489 : (u2 dt470 79 12 0) 79 10 = dt470 79 10 := rfl
              have w490 : (u2 dt470 79 12 0) 79 11 = dt470 79 11 := rfl
              have w491 : (u2 dt470 79 12 0) 79 12 = 0 := rfl
              have w492 : (u2 dt470 79 12 0) 79 13 = dt470 79 13 := rfl
              have w493 : (u2 dt470 79 12 0) 79 14 = dt470 79 14 := rfl
              have w494 : (u2 dt470 79 12 0) 79 15 = dt470 79 15 := rfl
              have E84495 : (u2 dt470 79 12 0) 84 = dt470 84 := funext fun _ => rfl
              have E80496 : (u2 dt470 79 12 0) 80 = dt 80 := (funext fun _ => u2_ne (fun z => absurd z.1 (by decide))).trans hE80
              refine go_smpq PM174 (L' := [some (.inr (.inr (some 79))), some (.inl p1), some (.inl p2), some (.inl l75_3)]) (st' := []) (w' := (SH, (u2 dt470 79 12 0))) rfl rfl (s_pf rfl rfl rfl rfl ⟨by decide, by decide⟩) ?_
              have r497 : (-2147483648) ≤ dt470 79 17 ∧ dt470 79 17 ≤ 2147483647 := InvC_get hI471 79 17 rfl rfl
              refine go_toq PM174 (k := 3) (pc' := 133) (L' := [some (.inr (.inr (some 79))), some (.inl p1), some (.inl p2), some (.inl l75_3)]) (st' := [.inl (dt470 79 17), .inr (.inr (some 79))]) (w' := (SH, (u2 dt470 79 12 0))) rfl ?_
              have hI498 : InvC (u2 (u2 dt470 79 12 0) 79 19 (dt470 79 17)) := InvC_u2 hI485 (lo := -2147483648) (hi := 2147483647) rfl rfl rfl (by first | exact bnd1 r497 (by decide) | omega) (by first | exact bnd2 r497 (by decide) | omega)
              have hF499 : Fr [79, 80, 82, 83, 84] dt (u2 (u2 dt470 79 12 0) 79 19 (dt470 79 17)) := Fr_u2 hF486 (by decide)
              have w500 : (u2 (u2 dt470 79 12 0) 79 19 (dt470 79 17)) 79 2 = (u2 dt470 79 12 0) 79 2 := rfl
              have w501 : (u2 (u2 dt470 79 12 0) 79 19 (dt470 79 17)) 79 9 = (u2 dt470 79 12 0) 79 9 := rfl
              have w502 : (u2 (u2 dt470 79 12 0) 79 19 (dt470 79 17)) 79 10 = (u2 dt470 79 12 0) 79 10 := rfl
              have w503 : (u2 (u2 dt470 79 12 0) 79 19 (dt470 79 17)) 79 11 = (u2 dt470 79 12 0) 79 11 := rfl
              have w504 : (u2 (u2 dt470 79 12 0) 79 19 (dt470 79 17)) 79 12 = (u2 dt470 79 12 0) 79 12 := rfl
              have w505 : (u2 (u2 dt470 79 12 0) 79 19 (dt470 79 17)) 79 13 = (u2 dt470 79 12 0) 79 13 := rfl
              have w506 : (u2 (u2 dt470 79 12 0) 79 19 (dt470 79 17)) 79 14 = (u2 dt470 79 12 0) 79 14 := rfl
              have w507 : (u2 (u2 dt470 79 12 0) 79 19 (dt470 79 17)) 79 15 = (u2 dt470 79 12 0) 79 15 := rfl
              have E84508 : (u2 (u2 dt470 79 12 0) 79 19 (dt470 79 17)) 84 = dt470 84 := (funext fun _ => rfl).trans E84495
              have E80509 : (u2 (u2 dt470 79 12 0) 79 19 (dt470 79 17)) 80 = dt 80 := (funext fun _ => u2_ne (fun z => absurd z.1 (by decide))).trans E80496
              refine go_smpq PM174 (L' := [some (.inr (.inr (some 79))), some (.inl p1), some (.inl p2), some (.inl l75_3)]) (st' := []) (w' := (SH, (u2 (u2 dt470 79 12 0) 79 19 (dt470 79 17)))) rfl rfl (s_pf rfl rfl rfl rfl (by first | exact bnd r497 (by decide) (by decide) | exact ⟨by omega, by omega⟩)) ?_
              refine go_ifq PM174 (k := 2) (p1 := 145) (p2 := 141) (L' := [some (.inr (.inr (some 79))), some (.inl p1), some (.inl p2), some (.inl l75_3)]) (st' := [.inr (.inr (some 79))]) (w' := (SH, (u2 (u2 dt470 79 12 0) 79 19 (dt470 79 17)))) rfl (z_eq (a := l75_3) (by first | exact bnd i473 (by decide) (by decide) | exact ⟨by omega, by omega⟩)) (fun c510 => ?_) (fun c510 => ?_)
              · skip
                have r511 : (-2147483648) ≤ dt470 79 18 ∧ dt470 79 18 ≤ 2147483647 := InvC_get hI471 79 18 rfl rfl
                refine go_toq PM174 (k := 2) (pc' := 149) (L' := [some (.inr (.inr (some 79))), some (.inl p1), some (.inl p2), some (.inl l75_3)]) (st' := [.inl (dt470 79 18), .inr (.inr (some 79))]) (w' := (SH, (u2 (u2 dt470 79 12 0) 79 19 (dt470 79 17)))) rfl ?_
                have hI512 : InvC (u2 (u2 (u2 dt470 79 12 0) 79 19 (dt470 79 17)) 79 21 (dt470 79 18)) := InvC_u2 hI498 (lo := -2147483648) (hi := 2147483647) rfl rfl rfl (by first | exact bnd1 r511 (by decide) | omega) (by first | exact bnd2 r511 (by decide) | omega)
                have hF513 : Fr [79, 80, 82, 83, 84] dt (u2 (u2 (u2 dt470 79 12 0) 79 19 (dt470 79 17)) 79 21 (dt470 79 18)) := Fr_u2 hF499 (by decide)
                have w514 : (u2 (u2 (u2 dt470 79 12 0) 79 19 (dt470 79 17)) 79 21 (dt470 79 18)) 79 2 = (u2 (u2 dt470 79 12 0) 79 19 (dt470 79 17)) 79 2 := rfl
                have w515 : (u2 (u2 (u2 dt470 79 12 0) 79 19 (dt470 79 17)) 79 21 (dt470 79 18)) 79 9 = (u2 (u2 dt470 79 12 0) 79 19 (dt470 79 17)) 79 9 := rfl
                have w516 : (u2 (u2 (u2 dt470 79 12 0) 79 19 (dt470 79 17)) 79 21 (dt470 79 18)) 79 10 = (u2 (u2 dt470 79 12 0) 79 19 (dt470 79 17)) 79 10 := rfl
                have w517 : (u2 (u2 (u2 dt470 79 12 0) 79 19 (dt470 79 17)) 79 21 (dt470 79 18)) 79 11 = (u2 (u2 dt470 79 12 0) 79 19 (dt470 79 17)) 79 11 := rfl
                have w518 : (u2 (u2 (u2 dt470 79 12 0) 79 19 (dt470 79 17)) 79 21 (dt470 79 18)) 79 12 = (u2 (u2 dt470 79 12 0) 79 19 (dt470 79 17)) 79 12 := rfl
                have w519 : (u2 (u2 (u2 dt470 79 12 0) 79 19 (dt470 79 17)) 79 21 (dt470 79 18)) 79 13 = (u2 (u2 dt470 79 12 0) 79 19 (dt470 79 17)) 79 13 := rfl
                have w520 : (u2 (u2 (u2 dt470 79 12 0) 79 19 (dt470 79 17)) 79 21 (dt470 79 18)) 79 14 = (u2 (u2 dt470 79 12 0) 79 19 (dt470 79 17)) 79 14 := rfl
                have w521 : (u2 (u2 (u2 dt470 79 12 0) 79 19 (dt470 79 17)) 79 21 (dt470 79 18)) 79 15 = (u2 (u2 dt470 79 12 0) 79 19 (dt470 79 17)) 79 15 := rfl
                have E84522 : (u2 (u2 (u2 dt470 79 12 0) 79 19 (dt470 79 17)) 79 21 (dt470 79 18)) 84 = dt470 84 := (funext fun _ => rfl).trans E84508
                have E80523 : (u2 (u2 (u2 dt470 79 12 0) 79 19 (dt470 79 17)) 79 21 (dt470 79 18)) 80 = dt 80 := (funext fun _ => u2_ne (fun z => absurd z.1 (by decide))).trans E80509
                refine go_smpq PM174 (L' := [some (.inr (.inr (some 79))), some (.inl p1), some (.inl p2), some (.inl l75_3)]) (st' := []) (w' := (SH, (u2 (u2 (u2 dt470 79 12 0) 79 19 (dt470 79 17)) 79 21 (dt470 79 18)))) rfl rfl (s_pf rfl rfl rfl rfl (by first | exact bnd r511 (by decide) (by decide) | exact ⟨by omega, by omega⟩)) ?_
                refine go_ifq PM174 (k := 1) (p1 := 158) (p2 := 156) (L' := [some (.inr (.inr (some 79))), some (.inl p1), some (.inl p2), some (.inl l75_3)]) (st' := []) (w' := (SH, (u2 (u2 (u2 dt470 79 12 0) 79 19 (dt470 79 17)) 79 21 (dt470 79 18)))) rfl (z_ne (a := l75_3) (by first | exact bnd i473 (by decide) (by decide) | exact ⟨by omega, by omega⟩)) (fun c524 => ?_) (fun c524 => ?_)
                · skip
                  refine go_toq PM174 (k := 2) (pc' := 160) (L' := [some (.inr (.inr (some 79))), some (.inl p1), some (.inl p2), some (.inl l75_3)]) (st' := [.inl p2, .inr (.inr (some 79))]) (w' := (SH, (u2 (u2 (u2 dt470 79 12 0) 79 19 (dt470 79 17)) 79 21 (dt470 79 18)))) rfl ?_
                  refine go_callq PM174 PM175 (Q' := _) rfl rfl rfl rfl (sp_X6_keeps_k0 L xs sio (d + 37) (u2 (u2 (u2 dt470 79 12 0) 79 19 (dt470 79 17)) 79 21 (dt470 79 18)) hI512 hM_dt470  p2 (by first | exact h_p2 | exact bnd h_p2 (by decide) (by decide) | exact ⟨by omega, by omega⟩) (by first | exact True.intro | rfl | omega | trivial | exact hI4 (by omega) (by omega) | exact hI5 (by omega) (by omega)) (by first | exact True.intro | rfl | omega | trivial | exact hI4 (by omega) (by omega) | exact hI5 (by omega) (by omega)) (by first | exact True.intro | rfl | omega | trivial | exact hI4 (by omega) (by omega) | exact hI5 (by omega) (by omega))) ?_
                  rintro _ _ ⟨dt526, rfl, hI527, hF528, h525⟩
                  refine ⟨rfl, ?_⟩
                  have hF529 : Fr [79, 80, 82, 83, 84] dt dt526 := Fr_tr hF513 hF528 (by decide)
                  have w530 : dt526 79 2 = (u2 (u2 (u2 dt470 79 12 0) 79 19 (dt470 79 17)) 79 21 (dt470 79 18)) 79 2 := hF528 79 (by decide) 2
                  have w531 : dt526 79 9 = (u2 (u2 (u2 dt470 79 12 0) 79 19 (dt470 79 17)) 79 21 (dt470 79 18)) 79 9 := hF528 79 (by decide) 9
                  have w532 : dt526 79 10 = (u2 (u2 (u2 dt470 79 12 0) 79 19 (dt470 79 17)) 79 21 (dt470 79 18)) 79 10 := hF528 79 (by decide) 10
                  have w533 : dt526 79 11 = (u2 (u2 (u2 dt470 79 12 0) 79 19 (dt470 79 17)) 79 21 (dt470 79 18)) 79 11 := hF528 79 (by decide) 11
                  have w534 : dt526 79 12 = (u2 (u2 (u2 dt470 79 12 0) 79 19 (dt470 79 17)) 79 21 (dt470 79 18)) 79 12 := hF528 79 (by decide) 12
                  have w535 : dt526 79 13 = (u2 (u2 (u2 dt470 79 12 0) 79 19 (dt470 79 17)) 79 21 (dt470 79 18)) 79 13 := hF528 79 (by decide) 13
                  have w536 : dt526 79 14 = (u2 (u2 (u2 dt470 79 12 0) 79 19 (dt470 79 17)) 79 21 (dt470 79 18)) 79 14 := hF528 79 (by decide) 14
                  have w537 : dt526 79 15 = (u2 (u2 (u2 dt470 79 12 0) 79 19 (dt470 79 17)) 79 21 (dt470 79 18)) 79 15 := hF528 79 (by decide) 15
                  have E84538 : dt526 84 = dt470 84 := (funext (hF528 84 (by decide))).trans E84522
                  rcases h525 with ⟨rfl, h525⟩
                  have hM539 : MW (dt526 80) := h525.1
                  obtain ⟨h525_0, h525_1, h525_2, h525_3, h525_4, h525_5, h525_6⟩ := h525
                  have r540 : 0 ≤ dt526 79 10 ∧ dt526 79 10 ≤ 24 := InvC_get hI527 79 10 rfl rfl
                  refine go_retq PM174 (k := 2) (r := some (.inl (dt526 79 10))) (w1 := (SH, dt526)) rfl ?_
                  exact ⟨dt526, rfl, hI527, hF529, ⟨_, rfl, (by first | exact bnd r540 (by decide) (by decide) | exact ⟨by omega, by omega⟩), ⟨by first | exact True.intro | rfl | omega | trivial, by first | exact True.intro | rfl | omega | trivial, by first | assumption | exact hM, by first | rfl | exact congrFun E80523 0 | exact Eq.trans (by assumption) (congrFun E80523 0), by first | rfl | exact congrFun E80523 1 | exact Eq.trans (by assumption) (congrFun E80523 1), by first | rfl | exact congrFun E80523 2 | exact Eq.trans (by assumption) (congrFun E80523 2), by first | rfl | exact congrFun E80523 3 | exact Eq.trans (by assumption) (congrFun E80523 3), by first | rfl | exact congrFun E80523 4 | exact Eq.trans (by assumption) (congrFun E80523 4), by first | rfl | exact congrFun E80523 5 | exact Eq.trans (by assumption) (congrFun E80523 5)⟩⟩⟩
                · skip
                  refine go_retq PM174 (k := 1) (r := some (.inl (-1))) (w1 := (SH, (u2 (u2 (u2 dt470 79 12 0) 79 19 (dt470 79 17)) 79 21 (dt470 79 18)))) rfl ?_
                  exact ⟨(u2 (u2 (u2 dt470 79 12 0) 79 19 (dt470 79 17)) 79 21 (dt470 79 18)), rfl, hI512, hF513, ⟨_, rfl, ⟨by decide, by decide⟩, ⟨by first | exact True.intro | rfl | omega | trivial, by first | exact True.intro | rfl | omega | trivial, by first | assumption | exact hM, by first | rfl | exact congrFun E80523 0 | exact Eq.trans (by assumption) (congrFun E80523 0), by first | rfl | exact congrFun E80523 1 | exact Eq.trans (by assumption) (congrFun E80523 1), by first | rfl | exact congrFun E80523 2 | exact Eq.trans (by assumption) (congrFun E80523 2), by first | rfl | exact congrFun E80523 3 | exact Eq.trans (by assumption) (congrFun E80523 3), by first | rfl | exact congrFun E80523 4 | exact Eq.trans (by assumption) (congrFun E80523 4), by first | rfl | exact congrFun E80523 5 | exact Eq.trans (by assumption) (congrFun E80523 5)⟩⟩⟩
              · skip
                refine go_toq PM174 (k := 2) (pc' := 149) (L' := [some (.inr (.inr (some 79))), some (.inl p1), some (.inl p2), some (.inl l75_3)]) (st' := [.inl (-1), .inr (.inr (some 79))]) (w' := (SH, (u2 (u2 dt470 79 12 0) 79 19 (dt470 79 17)))) rfl ?_
                have hI541 : InvC (u2 (u2 (u2 dt470 79 12 0) 79 19 (dt470 79 17)) 79 21 (-1)) := InvC_u2 hI498 (lo := -2147483648) (hi := 2147483647) rfl rfl rfl (by decide) (by decide)
                have hF542 : Fr [79, 80, 82, 83, 84] dt (u2 (u2 (u2 dt470 79 12 0) 79 19 (dt470 79 17)) 79 21 (-1)) := Fr_u2 hF499 (by decide)
                have w543 : (u2 (u2 (u2 dt470 79 12 0) 79 19 (dt470 79 17)) 79 21 (-1)) 79 2 = (u2 (u2 dt470 79 12 0) 79 19 (dt470 79 17)) 79 2 := rfl
                have w544 : (u2 (u2 (u2 dt470 79 12 0) 79 19 (dt470 79 17)) 79 21 (-1)) 79 9 = (u2 (u2 dt470 79 12 0) 79 19 (dt470 79 17)) 79 9 := rfl
                have w545 : (u2 (u2 (u2 dt470 79 12 0) 79 19 (dt470 79 17)) 79 21 (-1)) 79 10 = (u2 (u2 dt470 79 12 0) 79 19 (dt470 79 17)) 79 10 := rfl
                have w546 : (u2 (u2 (u2 dt470 79 12 0) 79 19 (dt470 79 17)) 79 21 (-1)) 79 11 = (u2 (u2 dt470 79 12 0) 79 19 (dt470 79 17)) 79 11 := rfl
                have w547 : (u2 (u2 (u2 dt470 79 12 0) 79 19 (dt470 79 17)) 79 21 (-1)) 79 12 = (u2 (u2 dt470 79 12 0) 79 19 (dt470 79 17)) 79 12 := rfl
                have w548 : (u2 (u2 (u2 dt470 79 12 0) 79 19 (dt470 79 17)) 79 21 (-1)) 79 13 = (u2 (u2 dt470 79 12 0) 79 19 (dt470 79 17)) 79 13 := rfl
                have w549 : (u2 (u2 (u2 dt470 79 12 0) 79 19 (dt470 79 17)) 79 21 (-1)) 79 14 = (u2 (u2 dt470 79 12 0) 79 19 (dt470 79 17)) 79 14 := rfl
                have w550 : (u2 (u2 (u2 dt470 79 12 0) 79 19 (dt470 79 17)) 79 21 (-1)) 79 15 = (u2 (u2 dt470 79 12 0) 79 19 (dt470 79 17)) 79 15 := rfl
                have E84551 : (u2 (u2 (u2 dt470 79 12 0) 79 19 (dt470 79 17)) 79 21 (-1)) 84 = dt470 84 := (funext fun _ => rfl).trans E84508
                have E80552 : (u2 (u2 (u2 dt470 79 12 0) 79 19 (dt470 79 17)) 79 21 (-1)) 80 = dt 80 := (funext fun _ => u2_ne (fun z => absurd z.1 (by decide))).trans E80509
                refine go_smpq PM174 (L' := [some (.inr (.inr (some 79))), some (.inl p1), some (.inl p2), some (.inl l75_3)]) (st' := []) (w' := (SH, (u2 (u2 (u2 dt470 79 12 0) 79 19 (dt470 79 17)) 79 21 (-1)))) rfl rfl (s_pf rfl rfl rfl rfl ⟨by decide, by decide⟩) ?_
                refine go_ifq PM174 (k := 1) (p1 := 158) (p2 := 156) (L' := [some (.inr (.inr (some 79))), some (.inl p1), some (.inl p2), some (.inl l75_3)]) (st' := []) (w' := (SH, (u2 (u2 (u2 dt470 79 12 0) 79 19 (dt470 79 17)) 79 21 (-1)))) rfl (z_ne (a := l75_3) (by first | exact bnd i473 (by decide) (by decide) | exact ⟨by omega, by omega⟩)) (fun c553 => ?_) (fun c553 => ?_)
                · skip
                  refine go_toq PM174 (k := 2) (pc' := 160) (L' := [some (.inr (.inr (some 79))), some (.inl p1), some (.inl p2), some (.inl l75_3)]) (st' := [.inl p2, .inr (.inr (some 79))]) (w' := (SH, (u2 (u2 (u2 dt470 79 12 0) 79 19 (dt470 79 17)) 79 21 (-1)))) rfl ?_
                  refine go_callq PM174 PM175 (Q' := _) rfl rfl rfl rfl (sp_X6_keeps_k0 L xs sio (d + 37) (u2 (u2 (u2 dt470 79 12 0) 79 19 (dt470 79 17)) 79 21 (-1)) hI541 hM_dt470  p2 (by first | exact h_p2 | exact bnd h_p2 (by decide) (by decide) | exact ⟨by omega, by omega⟩) (by first | exact True.intro | rfl | omega | trivial | exact hI4 (by omega) (by omega) | exact hI5 (by omega) (by omega)) (by first | exact True.intro | rfl | omega | trivial | exact hI4 (by omega) (by omega) | exact hI5 (by omega) (by omega)) (by first | exact True.intro | rfl | omega | trivial | exact hI4 (by omega) (by omega) | exact hI5 (by omega) (by omega))) ?_
                  rintro _ _ ⟨dt555, rfl, hI556, hF557, h554⟩
                  refine ⟨rfl, ?_⟩
                  have hF558 : Fr [79, 80, 82, 83, 84] dt dt555 := Fr_tr hF542 hF557 (by decide)
                  have w559 : dt555 79 2 = (u2 (u2 (u2 dt470 79 12 0) 79 19 (dt470 79 17)) 79 21 (-1)) 79 2 := hF557 79 (by decide) 2
                  have w560 : dt555 79 9 = (u2 (u2 (u2 dt470 79 12 0) 79 19 (dt470 79 17)) 79 21 (-1)) 79 9 := hF557 79 (by decide) 9
                  have w561 : dt555 79 10 = (u2 (u2 (u2 dt470 79 12 0) 79 19 (dt470 79 17)) 79 21 (-1)) 79 10 := hF557 79 (by decide) 10
                  have w562 : dt555 79 11 = (u2 (u2 (u2 dt470 79 12 0) 79 19 (dt470 79 17)) 79 21 (-1)) 79 11 := hF557 79 (by decide) 11
                  have w563 : dt555 79 12 = (u2 (u2 (u2 dt470 79 12 0) 79 19 (dt470 79 17)) 79 21 (-1)) 79 12 := hF557 79 (by decide) 12
                  have w564 : dt555 79 13 = (u2 (u2 (u2 dt470 79 12 0) 79 19 (dt470 79 17)) 79 21 (-1)) 79 13 := hF557 79 (by decide) 13
                  have w565 : dt555 79 14 = (u2 (u2 (u2 dt470 79 12 0) 79 19 (dt470 79 17)) 79 21 (-1)) 79 14 := hF557 79 (by decide) 14
                  have w566 : dt555 79 15 = (u2 (u2 (u2 dt470 79 12 0) 79 19 (dt470 79 17)) 79 21 (-1)) 79 15 := hF557 79 (by decide) 15
                  have E84567 : dt555 84 = dt470 84 := (funext (hF557 84 (by decide))).trans E84551
                  rcases h554 with ⟨rfl, h554⟩
                  have hM568 : MW (dt555 80) := h554.1
                  obtain ⟨h554_0, h554_1, h554_2, h554_3, h554_4, h554_5, h554_6⟩ := h554
                  have r569 : 0 ≤ dt555 79 10 ∧ dt555 79 10 ≤ 24 := InvC_get hI556 79 10 rfl rfl
                  refine go_retq PM174 (k := 2) (r := some (.inl (dt555 79 10))) (w1 := (SH, dt555)) rfl ?_
                  exact ⟨dt555, rfl, hI556, hF558, ⟨_, rfl, (by first | exact bnd r569 (by decide) (by decide) | exact ⟨by omega, by omega⟩), ⟨by first | exact True.intro | rfl | omega | trivial, by first | exact True.intro | rfl | omega | trivial, by first | assumption | exact hM, by first | rfl | exact congrFun E80552 0 | exact Eq.trans (by assumption) (congrFun E80552 0), by first | rfl | exact congrFun E80552 1 | exact Eq.trans (by assumption) (congrFun E80552 1), by first | rfl | exact congrFun E80552 2 | exact Eq.trans (by assumption) (congrFun E80552 2), by first | rfl | exact congrFun E80552 3 | exact Eq.trans (by assumption) (congrFun E80552 3), by first | rfl | exact congrFun E80552 4 | exact Eq.trans (by assumption) (congrFun E80552 4), by first | rfl | exact congrFun E80552 5 | exact Eq.trans (by assumption) (congrFun E80552 5)⟩⟩⟩
                · exfalso; omega
            · skip
              have hc570 : l75_3 = 1 := by omega
              subst hc570
              have r571 : (-2147483648) ≤ dt470 79 14 ∧ dt470 79 14 ≤ 2147483647 := InvC_get hI471 79 14 rfl rfl
              refine go_ifq PM174 (k := 2) (p1 := 123) (p2 := 86) (L' := [some (.inr (.inr (some 79))), some (.inl p1), some (.inl p2), some (.inl 1)]) (st' := []) (w' := (SH, dt470)) rfl (z_eq (a := dt470 79 14) (by first | exact bnd r571 (by decide) (by decide) | exact ⟨by omega, by omega⟩)) (fun c572 => ?_) (fun c572 => ?_)
              · skip
                refine go_toq PM174 (k := 2) (pc' := 125) (L' := [some (.inr (.inr (some 79))), some (.inl p1), some (.inl p2), some (.inl 1)]) (st' := [.inl 0, .inr (.inr (some 79))]) (w' := (SH, dt470)) rfl ?_
                have hI573 : InvC (u2 dt470 79 12 0) := InvC_u2 hI471 (lo := 0) (hi := 500) rfl rfl rfl (by decide) (by decide)
                have hF574 : Fr [79, 80, 82, 83, 84] dt (u2 dt470 79 12 0) := Fr_u2 hF472 (by decide)
                have w575 : (u2 dt470 79 12 0) 79 2 = dt470 79 2 := rfl
                have w576 : (u2 dt470 79 12 0) 79 9 = dt470 79 9 := rfl
                have w577 : (u2 dt470 79 12 0) 79 10 = dt470 79 10 := rfl
                have w578 : (u2 dt470 79 12 0) 79 11 = dt470 79 11 := rfl
                have w579 : (u2 dt470 79 12 0) 79 12 = 0 := rfl
                have w580 : (u2 dt470 79 12 0) 79 13 = dt470 79 13 := rfl
                have w581 : (u2 dt470 79 12 0) 79 14 = dt470 79 14 := rfl
                have w582 : (u2 dt470 79 12 0) 79 15 = dt470 79 15 := rfl
                have E84583 : (u2 dt470 79 12 0) 84 = dt470 84 := funext fun _ => rfl
                have E80584 : (u2 dt470 79 12 0) 80 = dt 80 := (funext fun _ => u2_ne (fun z => absurd z.1 (by decide))).trans hE80
                refine go_smpq PM174 (L' := [some (.inr (.inr (some 79))), some (.inl p1), some (.inl p2), some (.inl 1)]) (st' := []) (w' := (SH, (u2 dt470 79 12 0))) rfl rfl (s_pf rfl rfl rfl rfl ⟨by decide, by decide⟩) ?_
                have r585 : (-2147483648) ≤ dt470 79 17 ∧ dt470 79 17 ≤ 2147483647 := InvC_get hI471 79 17 rfl rfl
                refine go_toq PM174 (k := 3) (pc' := 133) (L' := [some (.inr (.inr (some 79))), some (.inl p1), some (.inl p2), some (.inl 1)]) (st' := [.inl (dt470 79 17), .inr (.inr (some 79))]) (w' := (SH, (u2 dt470 79 12 0))) rfl ?_
                have hI586 : InvC (u2 (u2 dt470 79 12 0) 79 19 (dt470 79 17)) := InvC_u2 hI573 (lo := -2147483648) (hi := 2147483647) rfl rfl rfl (by first | exact bnd1 r585 (by decide) | omega) (by first | exact bnd2 r585 (by decide) | omega)
                have hF587 : Fr [79, 80, 82, 83, 84] dt (u2 (u2 dt470 79 12 0) 79 19 (dt470 79 17)) := Fr_u2 hF574 (by decide)
                have w588 : (u2 (u2 dt470 79 12 0) 79 19 (dt470 79 17)) 79 2 = (u2 dt470 79 12 0) 79 2 := rfl
                have w589 : (u2 (u2 dt470 79 12 0) 79 19 (dt470 79 17)) 79 9 = (u2 dt470 79 12 0) 79 9 := rfl
                have w590 : (u2 (u2 dt470 79 12 0) 79 19 (dt470 79 17)) 79 10 = (u2 dt470 79 12 0) 79 10 := rfl
                have w591 : (u2 (u2 dt470 79 12 0) 79 19 (dt470 79 17)) 79 11 = (u2 dt470 79 12 0) 79 11 := rfl
                have w592 : (u2 (u2 dt470 79 12 0) 79 19 (dt470 79 17)) 79 12 = (u2 dt470 79 12 0) 79 12 := rfl
                have w593 : (u2 (u2 dt470 79 12 0) 79 19 (dt470 79 17)) 79 13 = (u2 dt470 79 12 0) 79 13 := rfl
                have w594 : (u2 (u2 dt470 79 12 0) 79 19 (dt470 79 17)) 79 14 = (u2 dt470 79 12 0) 79 14 := rfl
                have w595 : (u2 (u2 dt470 79 12 0) 79 19 (dt470 79 17)) 79 15 = (u2 dt470 79 12 0) 79 15 := rfl
                have E84596 : (u2 (u2 dt470 79 12 0) 79 19 (dt470 79 17)) 84 = dt470 84 := (funext fun _ => rfl).trans E84583
                have E80597 : (u2 (u2 dt470 79 12 0) 79 19 (dt470 79 17)) 80 = dt 80 := (funext fun _ => u2_ne (fun z => absurd z.1 (by decide))).trans E80584
                refine go_smpq PM174 (L' := [some (.inr (.inr (some 79))), some (.inl p1), some (.inl p2), some (.inl 1)]) (st' := []) (w' := (SH, (u2 (u2 dt470 79 12 0) 79 19 (dt470 79 17)))) rfl rfl (s_pf rfl rfl rfl rfl (by first | exact bnd r585 (by decide) (by decide) | exact ⟨by omega, by omega⟩)) ?_
                refine go_toq PM174 (k := 5) (pc' := 149) (L' := [some (.inr (.inr (some 79))), some (.inl p1), some (.inl p2), some (.inl 1)]) (st' := [.inl (-1), .inr (.inr (some 79))]) (w' := (SH, (u2 (u2 dt470 79 12 0) 79 19 (dt470 79 17)))) rfl ?_
                have hI598 : InvC (u2 (u2 (u2 dt470 79 12 0) 79 19 (dt470 79 17)) 79 21 (-1)) := InvC_u2 hI586 (lo := -2147483648) (hi := 2147483647) rfl rfl rfl (by decide) (by decide)
                have hF599 : Fr [79, 80, 82, 83, 84] dt (u2 (u2 (u2 dt470 79 12 0) 79 19 (dt470 79 17)) 79 21 (-1)) := Fr_u2 hF587 (by decide)
                have w600 : (u2 (u2 (u2 dt470 79 12 0) 79 19 (dt470 79 17)) 79 21 (-1)) 79 2 = (u2 (u2 dt470 79 12 0) 79 19 (dt470 79 17)) 79 2 := rfl
                have w601 : (u2 (u2 (u2 dt470 79 12 0) 79 19 (dt470 79 17)) 79 21 (-1)) 79 9 = (u2 (u2 dt470 79 12 0) 79 19 (dt470 79 17)) 79 9 := rfl
                have w602 : (u2 (u2 (u2 dt470 79 12 0) 79 19 (dt470 79 17)) 79 21 (-1)) 79 10 = (u2 (u2 dt470 79 12 0) 79 19 (dt470 79 17)) 79 10 := rfl
                have w603 : (u2 (u2 (u2 dt470 79 12 0) 79 19 (dt470 79 17)) 79 21 (-1)) 79 11 = (u2 (u2 dt470 79 12 0) 79 19 (dt470 79 17)) 79 11 := rfl
                have w604 : (u2 (u2 (u2 dt470 79 12 0) 79 19 (dt470 79 17)) 79 21 (-1)) 79 12 = (u2 (u2 dt470 79 12 0) 79 19 (dt470 79 17)) 79 12 := rfl
                have w605 : (u2 (u2 (u2 dt470 79 12 0) 79 19 (dt470 79 17)) 79 21 (-1)) 79 13 = (u2 (u2 dt470 79 12 0) 79 19 (dt470 79 17)) 79 13 := rfl
                have w606 : (u2 (u2 (u2 dt470 79 12 0) 79 19 (dt470 79 17)) 79 21 (-1)) 79 14 = (u2 (u2 dt470 79 12 0) 79 19 (dt470 79 17)) 79 14 := rfl
                have w607 : (u2 (u2 (u2 dt470 79 12 0) 79 19 (dt470 79 17)) 79 21 (-1)) 79 15 = (u2 (u2 dt470 79 12 0) 79 19 (dt470 79 17)) 79 15 := rfl
                have E84608 : (u2 (u2 (u2 dt470 79 12 0) 79 19 (dt470 79 17)) 79 21 (-1)) 84 = dt470 84 := (funext fun _ => rfl).trans E84596
                have E80609 : (u2 (u2 (u2 dt470 79 12 0) 79 19 (dt470 79 17)) 79 21 (-1)) 80 = dt 80 := (funext fun _ => u2_ne (fun z => absurd z.1 (by decide))).trans E80597
                refine go_smpq PM174 (L' := [some (.inr (.inr (some 79))), some (.inl p1), some (.inl p2), some (.inl 1)]) (st' := []) (w' := (SH, (u2 (u2 (u2 dt470 79 12 0) 79 19 (dt470 79 17)) 79 21 (-1)))) rfl rfl (s_pf rfl rfl rfl rfl ⟨by decide, by decide⟩) ?_
                refine go_toq PM174 (k := 4) (pc' := 160) (L' := [some (.inr (.inr (some 79))), some (.inl p1), some (.inl p2), some (.inl 1)]) (st' := [.inl p2, .inr (.inr (some 79))]) (w' := (SH, (u2 (u2 (u2 dt470 79 12 0) 79 19 (dt470 79 17)) 79 21 (-1)))) rfl ?_
                refine go_callq PM174 PM175 (Q' := _) rfl rfl rfl rfl (sp_X6_keeps_k0 L xs sio (d + 37) (u2 (u2 (u2 dt470 79 12 0) 79 19 (dt470 79 17)) 79 21 (-1)) hI598 hM_dt470  p2 (by first | exact h_p2 | exact bnd h_p2 (by decide) (by decide) | exact ⟨by omega, by omega⟩) (by first | exact True.intro | rfl | omega | trivial | exact hI4 (by omega) (by omega) | exact hI5 (by omega) (by omega)) (by first | exact True.intro | rfl | omega | trivial | exact hI4 (by omega) (by omega) | exact hI5 (by omega) (by omega)) (by first | exact True.intro | rfl | omega | trivial | exact hI4 (by omega) (by omega) | exact hI5 (by omega) (by omega))) ?_
                rintro _ _ ⟨dt611, rfl, hI612, hF613, h610⟩
                refine ⟨rfl, ?_⟩
                have hF614 : Fr [79, 80, 82, 83, 84] dt dt611 := Fr_tr hF599 hF613 (by decide)
                have w615 : dt611 79 2 = (u2 (u2 (u2 dt470 79 12 0) 79 19 (dt470 79 17)) 79 21 (-1)) 79 2 := hF613 79 (by decide) 2
                have w616 : dt611 79 9 = (u2 (u2 (u2 dt470 79 12 0) 79 19 (dt470 79 17)) 79 21 (-1)) 79 9 := hF613 79 (by decide) 9
                have w617 : dt611 79 10 = (u2 (u2 (u2 dt470 79 12 0) 79 19 (dt470 79 17)) 79 21 (-1)) 79 10 := hF613 79 (by decide) 10
                have w618 : dt611 79 11 = (u2 (u2 (u2 dt470 79 12 0) 79 19 (dt470 79 17)) 79 21 (-1)) 79 11 := hF613 79 (by decide) 11
                have w619 : dt611 79 12 = (u2 (u2 (u2 dt470 79 12 0) 79 19 (dt470 79 17)) 79 21 (-1)) 79 12 := hF613 79 (by decide) 12
                have w620 : dt611 79 13 = (u2 (u2 (u2 dt470 79 12 0) 79 19 (dt470 79 17)) 79 21 (-1)) 79 13 := hF613 79 (by decide) 13
                have w621 : dt611 79 14 = (u2 (u2 (u2 dt470 79 12 0) 79 19 (dt470 79 17)) 79 21 (-1)) 79 14 := hF613 79 (by decide) 14
                have w622 : dt611 79 15 = (u2 (u2 (u2 dt470 79 12 0) 79 19 (dt470 79 17)) 79 21 (-1)) 79 15 := hF613 79 (by decide) 15
                have E84623 : dt611 84 = dt470 84 := (funext (hF613 84 (by decide))).trans E84608
                rcases h610 with ⟨rfl, h610⟩
                have hM624 : MW (dt611 80) := h610.1
                obtain ⟨h610_0, h610_1, h610_2, h610_3, h610_4, h610_5, h610_6⟩ := h610
                have r625 : 0 ≤ dt611 79 10 ∧ dt611 79 10 ≤ 24 := InvC_get hI612 79 10 rfl rfl
                refine go_retq PM174 (k := 2) (r := some (.inl (dt611 79 10))) (w1 := (SH, dt611)) rfl ?_
                exact ⟨dt611, rfl, hI612, hF614, ⟨_, rfl, (by first | exact bnd r625 (by decide) (by decide) | exact ⟨by omega, by omega⟩), ⟨by first | exact True.intro | rfl | omega | trivial, by first | exact True.intro | rfl | omega | trivial, by first | assumption | exact hM, by first | rfl | exact congrFun E80609 0 | exact Eq.trans (by assumption) (congrFun E80609 0), by first | rfl | exact congrFun E80609 1 | exact Eq.trans (by assumption) (congrFun E80609 1), by first | rfl | exact congrFun E80609 2 | exact Eq.trans (by assumption) (congrFun E80609 2), by first | rfl | exact congrFun E80609 3 | exact Eq.trans (by assumption) (congrFun E80609 3), by first | rfl | exact congrFun E80609 4 | exact Eq.trans (by assumption) (congrFun E80609 4), by first | rfl | exact congrFun E80609 5 | exact Eq.trans (by assumption) (congrFun E80609 5)⟩⟩⟩
              · skip
                refine go_ifq PM174 (k := 1) (p1 := 97) (p2 := 90) (L' := [some (.inr (.inr (some 79))), some (.inl p1), some (.inl p2), some (.inl 1)]) (st' := []) (w' := (SH, dt470)) rfl (z_ne (a := p1) (by first | exact bnd h_p1 (by decide) (by decide) | exact ⟨by omega, by omega⟩)) (fun c626 => ?_) (fun c626 => ?_)
                · skip
                  refine go_toq PM174 (k := 1) (pc' := 98) (L' := [some (.inr (.inr (some 79))), some (.inl p1), some (.inl p2), some (.inl 1)]) (st' := [.inr (.inr (some 79))]) (w' := (SH, dt470)) rfl ?_
                  refine go_callq PM174 PM173 (Q' := _) rfl rfl rfl rfl (sp_X6_aLine L xs sio (d + 0) dt470 hI471   (by first | exact True.intro | rfl | omega | trivial | exact hI4 (by omega) (by omega) | exact hI5 (by omega) (by omega)) (by first | exact True.intro | rfl | omega | trivial | exact hI4 (by omega) (by omega) | exact hI5 (by omega) (by omega)) (by first | exact True.intro | rfl | omega | trivial | exact hI4 (by omega) (by omega) | exact hI5 (by omega) (by omega))) ?_
                  rintro _ _ ⟨dt628, rfl, hI629, hF630, h627⟩
                  refine ⟨rfl, ?_⟩
                  have hF631 : Fr [79, 80, 82, 83, 84] dt dt628 := Fr_tr hF472 hF630 (by decide)
                  have hM632 : MW (dt628 80) := MW_fr hM_dt470 hF630 (by decide)
                  have E80633 : dt628 80 = dt 80 := (funext (hF630 80 (by decide))).trans hE80
                  rcases h627 with ⟨rfl, h627⟩ | ⟨rfl, h627⟩
                  · skip
                    obtain ⟨h627_0, h627_1, h627_2⟩ := h627
                    have r634 : 0 ≤ dt628 79 10 ∧ dt628 79 10 ≤ 24 := InvC_get hI629 79 10 rfl rfl
                    refine go_toq PM174 (k := 8) (pc' := 117) (L' := [some (.inr (.inr (some 79))), some (.inl p1), some (.inl p2), some (.inl 0)]) (st' := [.inl ((dt628 79 10) + 0), .inr (.inr (some 79))]) (w' := (SH, dt628)) rfl ?_
                    have hI635 : InvC (u2 dt628 79 10 ((dt628 79 10) + 0)) := InvC_u2 hI629 (lo := 0) (hi := 24) rfl rfl rfl (by omega) (by omega)
                    have hF636 : Fr [79, 80, 82, 83, 84] dt (u2 dt628 79 10 ((dt628 79 10) + 0)) := Fr_u2 hF631 (by decide)
                    have w637 : (u2 dt628 79 10 ((dt628 79 10) + 0)) 79 2 = dt628 79 2 := rfl
                    have w638 : (u2 dt628 79 10 ((dt628 79 10) + 0)) 79 9 = dt628 79 9 := rfl
                    have w639 : (u2 dt628 79 10 ((dt628 79 10) + 0)) 79 10 = (dt628 79 10) + 0 := rfl
                    have w640 : (u2 dt628 79 10 ((dt628 79 10) + 0)) 79 11 = dt628 79 11 := rfl
                    have w641 : (u2 dt628 79 10 ((dt628 79 10) + 0)) 79 12 = dt628 79 12 := rfl
                    have w642 : (u2 dt628 79 10 ((dt628 79 10) + 0)) 79 13 = dt628 79 13 := rfl
                    have w643 : (u2 dt628 79 10 ((dt628 79 10) + 0)) 79 14 = dt628 79 14 := rfl
                    have w644 : (u2 dt628 79 10 ((dt628 79 10) + 0)) 79 15 = dt628 79 15 := rfl
                    have E84645 : (u2 dt628 79 10 ((dt628 79 10) + 0)) 84 = dt628 84 := funext fun _ => rfl
                    have E80646 : (u2 dt628 79 10 ((dt628 79 10) + 0)) 80 = dt 80 := (funext fun _ => u2_ne (fun z => absurd z.1 (by decide))).trans E80633
                    refine go_smpq PM174 (L' := [some (.inr (.inr (some 79))), some (.inl p1), some (.inl p2), some (.inl 0)]) (st' := []) (w' := (SH, (u2 dt628 79 10 ((dt628 79 10) + 0)))) rfl rfl (s_pf rfl rfl rfl rfl (by first | exact bndp r634 (by decide) (by decide) | exact ⟨by omega, by omega⟩)) ?_
                    refine go_toq PM174 (k := 1) (pc' := 75) (L' := [some (.inr (.inr (some 79))), some (.inl p1), some (.inl p2), some (.inl 0)]) (st' := []) (w' := (SH, (u2 dt628 79 10 ((dt628 79 10) + 0)))) rfl ?_
                    exact GO.le (ih_loop483 0 (u2 dt628 79 10 ((dt628 79 10) + 0)) hI635 hF636 hM632 ⟨by decide, by decide⟩ (by omega) (by first | omega | exact (InvC_get (by assumption) 79 15 rfl rfl).2) (by omega) (by omega) (by intro _ hz; first | omega | exact ARW_0 (by omega) | exact ARW_s (hI4 (by omega) hz) (by omega) (by assumption) (by assumption) (by omega)) (by intro _ hz; first | omega | exact LRW_0 (by omega) | exact LRW_s (hI5 (by omega) hz) (by omega) (by assumption) (by assumption) (by assumption) (by omega) (by omega)) (by omega) (by omega) (by exact E80646) (by omega)) ⟨.inl rfl, .inl rfl, .inl rfl, .inl rfl, trivial⟩
                  · skip
                    obtain ⟨h627_0, h627_1, h627_2, h627_3, h627_4, h627_5, h627_6, h627_7, h627_8, h627_9, h627_10, h627_11, h627_12⟩ := h627
                    have r647 : 0 ≤ dt628 79 10 ∧ dt628 79 10 ≤ 24 := InvC_get hI629 79 10 rfl rfl
                    refine go_toq PM174 (k := 9) (pc' := 117) (L' := [some (.inr (.inr (some 79))), some (.inl p1), some (.inl p2), some (.inl 1)]) (st' := [.inl ((dt628 79 10) + 1), .inr (.inr (some 79))]) (w' := (SH, dt628)) rfl ?_
                    have hI648 : InvC (u2 dt628 79 10 ((dt628 79 10) + 1)) := InvC_u2 hI629 (lo := 0) (hi := 24) rfl rfl rfl (by omega) (by omega)
                    have hF649 : Fr [79, 80, 82, 83, 84] dt (u2 dt628 79 10 ((dt628 79 10) + 1)) := Fr_u2 hF631 (by decide)
                    have w650 : (u2 dt628 79 10 ((dt628 79 10) + 1)) 79 2 = dt628 79 2 := rfl
                    have w651 : (u2 dt628 79 10 ((dt628 79 10) + 1)) 79 9 = dt628 79 9 := rfl
                    have w652 : (u2 dt628 79 10 ((dt628 79 10) + 1)) 79 10 = (dt628 79 10) + 1 := rfl
                    have w653 : (u2 dt628 79 10 ((dt628 79 10) + 1)) 79 11 = dt628 79 11 := rfl
                    have w654 : (u2 dt628 79 10 ((dt628 79 10) + 1)) 79 12 = dt628 79 12 := rfl
                    have w655 : (u2 dt628 79 10 ((dt628 79 10) + 1)) 79 13 = dt628 79 13 := rfl
                    have w656 : (u2 dt628 79 10 ((dt628 79 10) + 1)) 79 14 = dt628 79 14 := rfl
                    have w657 : (u2 dt628 79 10 ((dt628 79 10) + 1)) 79 15 = dt628 79 15 := rfl
                    have E84658 : (u2 dt628 79 10 ((dt628 79 10) + 1)) 84 = dt628 84 := funext fun _ => rfl
                    have E80659 : (u2 dt628 79 10 ((dt628 79 10) + 1)) 80 = dt 80 := (funext fun _ => u2_ne (fun z => absurd z.1 (by decide))).trans E80633
                    refine go_smpq PM174 (L' := [some (.inr (.inr (some 79))), some (.inl p1), some (.inl p2), some (.inl 1)]) (st' := []) (w' := (SH, (u2 dt628 79 10 ((dt628 79 10) + 1)))) rfl rfl (s_pf rfl rfl rfl rfl (by first | exact bndp r647 (by decide) (by decide) | exact ⟨by omega, by omega⟩)) ?_
                    refine go_toq PM174 (k := 1) (pc' := 75) (L' := [some (.inr (.inr (some 79))), some (.inl p1), some (.inl p2), some (.inl 1)]) (st' := []) (w' := (SH, (u2 dt628 79 10 ((dt628 79 10) + 1)))) rfl ?_
                    exact GO.le (ih_loop483 1 (u2 dt628 79 10 ((dt628 79 10) + 1)) hI648 hF649 hM632 ⟨by decide, by decide⟩ (by omega) (by first | omega | exact (InvC_get (by assumption) 79 15 rfl rfl).2) (by omega) (by omega) (by intro _ hz; first | omega | exact ARW_0 (by omega) | exact ARW_s (hI4 (by omega) hz) (by omega) (by assumption) (by assumption) (by omega)) (by intro _ hz; first | omega | exact LRW_0 (by omega) | exact LRW_s (hI5 (by omega) hz) (by omega) (by assumption) (by assumption) (by assumption) (by omega) (by omega)) (by omega) (by omega) (by exact E80659) (by omega)) ⟨.inl rfl, .inl rfl, .inl rfl, .inl rfl, trivial⟩
                · skip
                  refine go_toq PM174 (k := 1) (pc' := 91) (L' := [some (.inr (.inr (some 79))), some (.inl p1), some (.inl p2), some (.inl 1)]) (st' := [.inr (.inr (some 79))]) (w' := (SH, dt470)) rfl ?_
                  refine go_callq PM174 PM172 (Q' := _) rfl rfl rfl rfl (sp_X6_anAct L xs sio (d + 28) dt470 hI471   (by first | exact True.intro | rfl | omega | trivial | exact hI4 (by omega) (by omega) | exact hI5 (by omega) (by omega))) ?_
                  rintro _ _ ⟨dt661, rfl, hI662, hF663, h660⟩
                  refine ⟨rfl, ?_⟩
                  have hF664 : Fr [79, 80, 82, 83, 84] dt dt661 := Fr_tr hF472 hF663 (by decide)
                  have hM665 : MW (dt661 80) := MW_fr hM_dt470 hF663 (by decide)
                  have E80666 : dt661 80 = dt 80 := (funext (hF663 80 (by decide))).trans hE80
                  have E84667 : dt661 84 = dt470 84 := funext (hF663 84 (by decide))
                  rcases h660 with ⟨rfl, h660⟩ | ⟨rfl, h660⟩
                  · skip
                    obtain ⟨h660_0, h660_1, h660_2⟩ := h660
                    have r668 : 0 ≤ dt661 79 10 ∧ dt661 79 10 ≤ 24 := InvC_get hI662 79 10 rfl rfl
                    refine go_toq PM174 (k := 9) (pc' := 117) (L' := [some (.inr (.inr (some 79))), some (.inl p1), some (.inl p2), some (.inl 0)]) (st' := [.inl ((dt661 79 10) + 0), .inr (.inr (some 79))]) (w' := (SH, dt661)) rfl ?_
                    have hI669 : InvC (u2 dt661 79 10 ((dt661 79 10) + 0)) := InvC_u2 hI662 (lo := 0) (hi := 24) rfl rfl rfl (by omega) (by omega)
                    have hF670 : Fr [79, 80, 82, 83, 84] dt (u2 dt661 79 10 ((dt661 79 10) + 0)) := Fr_u2 hF664 (by decide)
                    have w671 : (u2 dt661 79 10 ((dt661 79 10) + 0)) 79 2 = dt661 79 2 := rfl
                    have w672 : (u2 dt661 79 10 ((dt661 79 10) + 0)) 79 9 = dt661 79 9 := rfl
                    have w673 : (u2 dt661 79 10 ((dt661 79 10) + 0)) 79 10 = (dt661 79 10) + 0 := rfl
                    have w674 : (u2 dt661 79 10 ((dt661 79 10) + 0)) 79 11 = dt661 79 11 := rfl
                    have w675 : (u2 dt661 79 10 ((dt661 79 10) + 0)) 79 12 = dt661 79 12 := rfl
                    have w676 : (u2 dt661 79 10 ((dt661 79 10) + 0)) 79 13 = dt661 79 13 := rfl
                    have w677 : (u2 dt661 79 10 ((dt661 79 10) + 0)) 79 14 = dt661 79 14 := rfl
                    have w678 : (u2 dt661 79 10 ((dt661 79 10) + 0)) 79 15 = dt661 79 15 := rfl
                    have E84679 : (u2 dt661 79 10 ((dt661 79 10) + 0)) 84 = dt470 84 := (funext fun _ => rfl).trans E84667
                    have E80680 : (u2 dt661 79 10 ((dt661 79 10) + 0)) 80 = dt 80 := (funext fun _ => u2_ne (fun z => absurd z.1 (by decide))).trans E80666
                    refine go_smpq PM174 (L' := [some (.inr (.inr (some 79))), some (.inl p1), some (.inl p2), some (.inl 0)]) (st' := []) (w' := (SH, (u2 dt661 79 10 ((dt661 79 10) + 0)))) rfl rfl (s_pf rfl rfl rfl rfl (by first | exact bndp r668 (by decide) (by decide) | exact ⟨by omega, by omega⟩)) ?_
                    refine go_toq PM174 (k := 1) (pc' := 75) (L' := [some (.inr (.inr (some 79))), some (.inl p1), some (.inl p2), some (.inl 0)]) (st' := []) (w' := (SH, (u2 dt661 79 10 ((dt661 79 10) + 0)))) rfl ?_
                    exact GO.le (ih_loop483 0 (u2 dt661 79 10 ((dt661 79 10) + 0)) hI669 hF670 hM665 ⟨by decide, by decide⟩ (by omega) (by first | omega | exact (InvC_get (by assumption) 79 15 rfl rfl).2) (by omega) (by omega) (by intro _ hz; first | omega | exact ARW_0 (by omega) | exact ARW_s (hI4 (by omega) hz) (by omega) (by assumption) (by assumption) (by omega)) (by intro _ hz; first | omega | exact LRW_0 (by omega) | exact LRW_s (hI5 (by omega) hz) (by omega) (by assumption) (by assumption) (by assumption) (by omega) (by omega)) (by omega) (by omega) (by exact E80680) (by omega)) ⟨.inl rfl, .inl rfl, .inl rfl, .inl rfl, trivial⟩
                  · skip
                    obtain ⟨h660_0, h660_1, h660_2, h660_3, h660_4, h660_5, h660_6, h660_7, h660_8, h660_9, h660_10⟩ := h660
                    have r681 : 0 ≤ dt661 79 10 ∧ dt661 79 10 ≤ 24 := InvC_get hI662 79 10 rfl rfl
                    refine go_toq PM174 (k := 10) (pc' := 117) (L' := [some (.inr (.inr (some 79))), some (.inl p1), some (.inl p2), some (.inl 1)]) (st' := [.inl ((dt661 79 10) + 1), .inr (.inr (some 79))]) (w' := (SH, dt661)) rfl ?_
                    have hI682 : InvC (u2 dt661 79 10 ((dt661 79 10) + 1)) := InvC_u2 hI662 (lo := 0) (hi := 24) rfl rfl rfl (by omega) (by omega)
                    have hF683 : Fr [79, 80, 82, 83, 84] dt (u2 dt661 79 10 ((dt661 79 10) + 1)) := Fr_u2 hF664 (by decide)
                    have w684 : (u2 dt661 79 10 ((dt661 79 10) + 1)) 79 2 = dt661 79 2 := rfl
                    have w685 : (u2 dt661 79 10 ((dt661 79 10) + 1)) 79 9 = dt661 79 9 := rfl
                    have w686 : (u2 dt661 79 10 ((dt661 79 10) + 1)) 79 10 = (dt661 79 10) + 1 := rfl
                    have w687 : (u2 dt661 79 10 ((dt661 79 10) + 1)) 79 11 = dt661 79 11 := rfl
                    have w688 : (u2 dt661 79 10 ((dt661 79 10) + 1)) 79 12 = dt661 79 12 := rfl
                    have w689 : (u2 dt661 79 10 ((dt661 79 10) + 1)) 79 13 = dt661 79 13 := rfl
                    have w690 : (u2 dt661 79 10 ((dt661 79 10) + 1)) 79 14 = dt661 79 14 := rfl
                    have w691 : (u2 dt661 79 10 ((dt661 79 10) + 1)) 79 15 = dt661 79 15 := rfl
                    have E84692 : (u2 dt661 79 10 ((dt661 79 10) + 1)) 84 = dt470 84 := (funext fun _ => rfl).trans E84667
                    have E80693 : (u2 dt661 79 10 ((dt661 79 10) + 1)) 80 = dt 80 := (funext fun _ => u2_ne (fun z => absurd z.1 (by decide))).trans E80666
                    refine go_smpq PM174 (L' := [some (.inr (.inr (some 79))), some (.inl p1), some (.inl p2), some (.inl 1)]) (st' := []) (w' := (SH, (u2 dt661 79 10 ((dt661 79 10) + 1)))) rfl rfl (s_pf rfl rfl rfl rfl (by first | exact bndp r681 (by decide) (by decide) | exact ⟨by omega, by omega⟩)) ?_
                    refine go_toq PM174 (k := 1) (pc' := 75) (L' := [some (.inr (.inr (some 79))), some (.inl p1), some (.inl p2), some (.inl 1)]) (st' := []) (w' := (SH, (u2 dt661 79 10 ((dt661 79 10) + 1)))) rfl ?_
                    exact GO.le (ih_loop483 1 (u2 dt661 79 10 ((dt661 79 10) + 1)) hI682 hF683 hM665 ⟨by decide, by decide⟩ (by omega) (by first | omega | exact (InvC_get (by assumption) 79 15 rfl rfl).2) (by omega) (by omega) (by intro _ hz; first | omega | exact ARW_0 (by omega) | exact ARW_s (hI4 (by omega) hz) (by omega) (by assumption) (by assumption) (by omega)) (by intro _ hz; first | omega | exact LRW_0 (by omega) | exact LRW_s (hI5 (by omega) hz) (by omega) (by assumption) (by assumption) (by assumption) (by omega) (by omega)) (by omega) (by omega) (by exact E80693) (by omega)) ⟨.inl rfl, .inl rfl, .inl rfl, .inl rfl, trivial⟩
        exact GO.le (loop483 _ 1 dt390 hI391 hF393 hM394 ⟨by decide, by decide⟩ (by omega) (by first | omega | exact (InvC_get (by assumption) 79 15 rfl rfl).2) (by omega) (by omega) (by intro _ hz; first | omega | exact ARW_0 (by omega) | exact ARW_s (hI4 (by omega) hz) (by omega) (by assumption) (by assumption) (by omega)) (by intro _ hz; first | omega | exact LRW_0 (by omega) | exact LRW_s (hI5 (by omega) hz) (by omega) (by assumption) (by assumption) (by assumption) (by omega) (by omega)) (by omega) (by omega) (by exact E80395) (Nat.lt_succ_self _)) ⟨.inl rfl, .inl rfl, .inl rfl, .inl rfl, trivial⟩
      · skip
        refine go_toq PM174 (k := 3) (pc' := 34) (L' := [some (.inr (.inr (some 79))), some (.inl p1), some (.inl p2), none]) (st' := [.inl 0, .inr (.inr (some 79))]) (w' := (SH, (u2 dt 79 17 0))) rfl ?_
        have hI694 : InvC (u2 (u2 dt 79 17 0) 79 12 0) := InvC_u2 hI4 (lo := 0) (hi := 500) rfl rfl rfl (by decide) (by decide)
        have hF695 : Fr [79, 80, 82, 83, 84] dt (u2 (u2 dt 79 17 0) 79 12 0) := Fr_u2 hF5 (by decide)
        have w696 : (u2 (u2 dt 79 17 0) 79 12 0) 79 2 = (u2 dt 79 17 0) 79 2 := rfl
        have w697 : (u2 (u2 dt 79 17 0) 79 12 0) 79 9 = (u2 dt 79 17 0) 79 9 := rfl
        have w698 : (u2 (u2 dt 79 17 0) 79 12 0) 79 10 = (u2 dt 79 17 0) 79 10 := rfl
        have w699 : (u2 (u2 dt 79 17 0) 79 12 0) 79 11 = (u2 dt 79 17 0) 79 11 := rfl
        have w700 : (u2 (u2 dt 79 17 0) 79 12 0) 79 12 = 0 := rfl
        have w701 : (u2 (u2 dt 79 17 0) 79 12 0) 79 13 = (u2 dt 79 17 0) 79 13 := rfl
        have w702 : (u2 (u2 dt 79 17 0) 79 12 0) 79 14 = (u2 dt 79 17 0) 79 14 := rfl
        have w703 : (u2 (u2 dt 79 17 0) 79 12 0) 79 15 = (u2 dt 79 17 0) 79 15 := rfl
        have E84704 : (u2 (u2 dt 79 17 0) 79 12 0) 84 = dt 84 := (funext fun _ => rfl).trans E8414
        have E80705 : (u2 (u2 dt 79 17 0) 79 12 0) 80 = dt 80 := (funext fun _ => u2_ne (fun z => absurd z.1 (by decide))).trans E8015
        refine go_smpq PM174 (L' := [some (.inr (.inr (some 79))), some (.inl p1), some (.inl p2), none]) (st' := []) (w' := (SH, (u2 (u2 dt 79 17 0) 79 12 0))) rfl rfl (s_pf rfl rfl rfl rfl ⟨by decide, by decide⟩) ?_
        refine go_toq PM174 (k := 2) (pc' := 39) (L' := [some (.inr (.inr (some 79))), some (.inl p1), some (.inl p2), none]) (st' := [.inl 0, .inr (.inr (some 79))]) (w' := (SH, (u2 (u2 dt 79 17 0) 79 12 0))) rfl ?_
        have hI706 : InvC (u2 (u2 (u2 dt 79 17 0) 79 12 0) 79 19 0) := InvC_u2 hI694 (lo := -2147483648) (hi := 2147483647) rfl rfl rfl (by decide) (by decide)
        have hF707 : Fr [79, 80, 82, 83, 84] dt (u2 (u2 (u2 dt 79 17 0) 79 12 0) 79 19 0) := Fr_u2 hF695 (by decide)
        have w708 : (u2 (u2 (u2 dt 79 17 0) 79 12 0) 79 19 0) 79 2 = (u2 (u2 dt 79 17 0) 79 12 0) 79 2 := rfl
        have w709 : (u2 (u2 (u2 dt 79 17 0) 79 12 0) 79 19 0) 79 9 = (u2 (u2 dt 79 17 0) 79 12 0) 79 9 := rfl
        have w710 : (u2 (u2 (u2 dt 79 17 0) 79 12 0) 79 19 0) 79 10 = (u2 (u2 dt 79 17 0) 79 12 0) 79 10 := rfl
        have w711 : (u2 (u2 (u2 dt 79 17 0) 79 12 0) 79 19 0) 79 11 = (u2 (u2 dt 79 17 0) 79 12 0) 79 11 := rfl
        have w712 : (u2 (u2 (u2 dt 79 17 0) 79 12 0) 79 19 0) 79 12 = (u2 (u2 dt 79 17 0) 79 12 0) 79 12 := rfl
        have w713 : (u2 (u2 (u2 dt 79 17 0) 79 12 0) 79 19 0) 79 13 = (u2 (u2 dt 79 17 0) 79 12 0) 79 13 := rfl
        have w714 : (u2 (u2 (u2 dt 79 17 0) 79 12 0) 79 19 0) 79 14 = (u2 (u2 dt 79 17 0) 79 12 0) 79 14 := rfl
        have w715 : (u2 (u2 (u2 dt 79 17 0) 79 12 0) 79 19 0) 79 15 = (u2 (u2 dt 79 17 0) 79 12 0) 79 15 := rfl
        have E84716 : (u2 (u2 (u2 dt 79 17 0) 79 12 0) 79 19 0) 84 = dt 84 := (funext fun _ => rfl).trans E84704
        have E80717 : (u2 (u2 (u2 dt 79 17 0) 79 12 0) 79 19 0) 80 = dt 80 := (funext fun _ => u2_ne (fun z => absurd z.1 (by decide))).trans E80705
        refine go_smpq PM174 (L' := [some (.inr (.inr (some 79))), some (.inl p1), some (.inl p2), none]) (st' := []) (w' := (SH, (u2 (u2 (u2 dt 79 17 0) 79 12 0) 79 19 0))) rfl rfl (s_pf rfl rfl rfl rfl ⟨by decide, by decide⟩) ?_
        refine go_toq PM174 (k := 2) (pc' := 44) (L' := [some (.inr (.inr (some 79))), some (.inl p1), some (.inl p2), none]) (st' := [.inl (-1), .inr (.inr (some 79))]) (w' := (SH, (u2 (u2 (u2 dt 79 17 0) 79 12 0) 79 19 0))) rfl ?_
        have hI718 : InvC (u2 (u2 (u2 (u2 dt 79 17 0) 79 12 0) 79 19 0) 79 21 (-1)) := InvC_u2 hI706 (lo := -2147483648) (hi := 2147483647) rfl rfl rfl (by decide) (by decide)
        have hF719 : Fr [79, 80, 82, 83, 84] dt (u2 (u2 (u2 (u2 dt 79 17 0) 79 12 0) 79 19 0) 79 21 (-1)) := Fr_u2 hF707 (by decide)
        have w720 : (u2 (u2 (u2 (u2 dt 79 17 0) 79 12 0) 79 19 0) 79 21 (-1)) 79 2 = (u2 (u2 (u2 dt 79 17 0) 79 12 0) 79 19 0) 79 2 := rfl
        have w721 : (u2 (u2 (u2 (u2 dt 79 17 0) 79 12 0) 79 19 0) 79 21 (-1)) 79 9 = (u2 (u2 (u2 dt 79 17 0) 79 12 0) 79 19 0) 79 9 := rfl
        have w722 : (u2 (u2 (u2 (u2 dt 79 17 0) 79 12 0) 79 19 0) 79 21 (-1)) 79 10 = (u2 (u2 (u2 dt 79 17 0) 79 12 0) 79 19 0) 79 10 := rfl
        have w723 : (u2 (u2 (u2 (u2 dt 79 17 0) 79 12 0) 79 19 0) 79 21 (-1)) 79 11 = (u2 (u2 (u2 dt 79 17 0) 79 12 0) 79 19 0) 79 11 := rfl
        have w724 : (u2 (u2 (u2 (u2 dt 79 17 0) 79 12 0) 79 19 0) 79 21 (-1)) 79 12 = (u2 (u2 (u2 dt 79 17 0) 79 12 0) 79 19 0) 79 12 := rfl
        have w725 : (u2 (u2 (u2 (u2 dt 79 17 0) 79 12 0) 79 19 0) 79 21 (-1)) 79 13 = (u2 (u2 (u2 dt 79 17 0) 79 12 0) 79 19 0) 79 13 := rfl
        have w726 : (u2 (u2 (u2 (u2 dt 79 17 0) 79 12 0) 79 19 0) 79 21 (-1)) 79 14 = (u2 (u2 (u2 dt 79 17 0) 79 12 0) 79 19 0) 79 14 := rfl
        have w727 : (u2 (u2 (u2 (u2 dt 79 17 0) 79 12 0) 79 19 0) 79 21 (-1)) 79 15 = (u2 (u2 (u2 dt 79 17 0) 79 12 0) 79 19 0) 79 15 := rfl
        have E84728 : (u2 (u2 (u2 (u2 dt 79 17 0) 79 12 0) 79 19 0) 79 21 (-1)) 84 = dt 84 := (funext fun _ => rfl).trans E84716
        have E80729 : (u2 (u2 (u2 (u2 dt 79 17 0) 79 12 0) 79 19 0) 79 21 (-1)) 80 = dt 80 := (funext fun _ => u2_ne (fun z => absurd z.1 (by decide))).trans E80717
        refine go_smpq PM174 (L' := [some (.inr (.inr (some 79))), some (.inl p1), some (.inl p2), none]) (st' := []) (w' := (SH, (u2 (u2 (u2 (u2 dt 79 17 0) 79 12 0) 79 19 0) 79 21 (-1)))) rfl rfl (s_pf rfl rfl rfl rfl ⟨by decide, by decide⟩) ?_
        refine go_retq PM174 (k := 1) (r := some (.inl (-1))) (w1 := (SH, (u2 (u2 (u2 (u2 dt 79 17 0) 79 12 0) 79 19 0) 79 21 (-1)))) rfl ?_
        exact ⟨(u2 (u2 (u2 (u2 dt 79 17 0) 79 12 0) 79 19 0) 79 21 (-1)), rfl, hI718, hF719, ⟨_, rfl, ⟨by decide, by decide⟩, ⟨by first | exact True.intro | rfl | omega | trivial, by first | exact True.intro | rfl | omega | trivial, by first | assumption | exact hM, by first | rfl | exact congrFun E80729 0 | exact Eq.trans (by assumption) (congrFun E80729 0), by first | rfl | exact congrFun E80729 1 | exact Eq.trans (by assumption) (congrFun E80729 1), by first | rfl | exact congrFun E80729 2 | exact Eq.trans (by assumption) (congrFun E80729 2), by first | rfl | exact congrFun E80729 3 | exact Eq.trans (by assumption) (congrFun E80729 3), by first | rfl | exact congrFun E80729 4 | exact Eq.trans (by assumption) (congrFun E80729 4), by first | rfl | exact congrFun E80729 5 | exact Eq.trans (by assumption) (congrFun E80729 5)⟩⟩⟩
  · skip
    refine go_toq PM174 (k := 3) (pc' := 34) (L' := [some (.inr (.inr (some 79))), some (.inl p1), some (.inl p2), none]) (st' := [.inl 0, .inr (.inr (some 79))]) (w' := (SH, (u2 dt 79 17 0))) rfl ?_
    have hI730 : InvC (u2 (u2 dt 79 17 0) 79 12 0) := InvC_u2 hI4 (lo := 0) (hi := 500) rfl rfl rfl (by decide) (by decide)
    have hF731 : Fr [79, 80, 82, 83, 84] dt (u2 (u2 dt 79 17 0) 79 12 0) := Fr_u2 hF5 (by decide)
    have w732 : (u2 (u2 dt 79 17 0) 79 12 0) 79 2 = (u2 dt 79 17 0) 79 2 := rfl
    have w733 : (u2 (u2 dt 79 17 0) 79 12 0) 79 9 = (u2 dt 79 17 0) 79 9 := rfl
    have w734 : (u2 (u2 dt 79 17 0) 79 12 0) 79 10 = (u2 dt 79 17 0) 79 10 := rfl
    have w735 : (u2 (u2 dt 79 17 0) 79 12 0) 79 11 = (u2 dt 79 17 0) 79 11 := rfl
    have w736 : (u2 (u2 dt 79 17 0) 79 12 0) 79 12 = 0 := rfl
    have w737 : (u2 (u2 dt 79 17 0) 79 12 0) 79 13 = (u2 dt 79 17 0) 79 13 := rfl
    have w738 : (u2 (u2 dt 79 17 0) 79 12 0) 79 14 = (u2 dt 79 17 0) 79 14 := rfl
    have w739 : (u2 (u2 dt 79 17 0) 79 12 0) 79 15 = (u2 dt 79 17 0) 79 15 := rfl
    have E84740 : (u2 (u2 dt 79 17 0) 79 12 0) 84 = dt 84 := (funext fun _ => rfl).trans E8414
    have E80741 : (u2 (u2 dt 79 17 0) 79 12 0) 80 = dt 80 := (funext fun _ => u2_ne (fun z => absurd z.1 (by decide))).trans E8015
    refine go_smpq PM174 (L' := [some (.inr (.inr (some 79))), some (.inl p1), some (.inl p2), none]) (st' := []) (w' := (SH, (u2 (u2 dt 79 17 0) 79 12 0))) rfl rfl (s_pf rfl rfl rfl rfl ⟨by decide, by decide⟩) ?_
    refine go_toq PM174 (k := 2) (pc' := 39) (L' := [some (.inr (.inr (some 79))), some (.inl p1), some (.inl p2), none]) (st' := [.inl 0, .inr (.inr (some 79))]) (w' := (SH, (u2 (u2 dt 79 17 0) 79 12 0))) rfl ?_
    have hI742 : InvC (u2 (u2 (u2 dt 79 17 0) 79 12 0) 79 19 0) := InvC_u2 hI730 (lo := -2147483648) (hi := 2147483647) rfl rfl rfl (by decide) (by decide)
    have hF743 : Fr [79, 80, 82, 83, 84] dt (u2 (u2 (u2 dt 79 17 0) 79 12 0) 79 19 0) := Fr_u2 hF731 (by decide)
    have w744 : (u2 (u2 (u2 dt 79 17 0) 79 12 0) 79 19 0) 79 2 = (u2 (u2 dt 79 17 0) 79 12 0) 79 2 := rfl
    have w745 : (u2 (u2 (u2 dt 79 17 0) 79 12 0) 79 19 0) 79 9 = (u2 (u2 dt 79 17 0) 79 12 0) 79 9 := rfl
    have w746 : (u2 (u2 (u2 dt 79 17 0) 79 12 0) 79 19 0) 79 10 = (u2 (u2 dt 79 17 0) 79 12 0) 79 10 := rfl
    have w747 : (u2 (u2 (u2 dt 79 17 0) 79 12 0) 79 19 0) 79 11 = (u2 (u2 dt 79 17 0) 79 12 0) 79 11 := rfl
    have w748 : (u2 (u2 (u2 dt 79 17 0) 79 12 0) 79 19 0) 79 12 = (u2 (u2 dt 79 17 0) 79 12 0) 79 12 := rfl
    have w749 : (u2 (u2 (u2 dt 79 17 0) 79 12 0) 79 19 0) 79 13 = (u2 (u2 dt 79 17 0) 79 12 0) 79 13 := rfl
    have w750 : (u2 (u2 (u2 dt 79 17 0) 79 12 0) 79 19 0) 79 14 = (u2 (u2 dt 79 17 0) 79 12 0) 79 14 := rfl
    have w751 : (u2 (u2 (u2 dt 79 17 0) 79 12 0) 79 19 0) 79 15 = (u2 (u2 dt 79 17 0) 79 12 0) 79 15 := rfl
    have E84752 : (u2 (u2 (u2 dt 79 17 0) 79 12 0) 79 19 0) 84 = dt 84 := (funext fun _ => rfl).trans E84740
    have E80753 : (u2 (u2 (u2 dt 79 17 0) 79 12 0) 79 19 0) 80 = dt 80 := (funext fun _ => u2_ne (fun z => absurd z.1 (by decide))).trans E80741
    refine go_smpq PM174 (L' := [some (.inr (.inr (some 79))), some (.inl p1), some (.inl p2), none]) (st' := []) (w' := (SH, (u2 (u2 (u2 dt 79 17 0) 79 12 0) 79 19 0))) rfl rfl (s_pf rfl rfl rfl rfl ⟨by decide, by decide⟩) ?_
    refine go_toq PM174 (k := 2) (pc' := 44) (L' := [some (.inr (.inr (some 79))), some (.inl p1), some (.inl p2), none]) (st' := [.inl (-1), .inr (.inr (some 79))]) (w' := (SH, (u2 (u2 (u2 dt 79 17 0) 79 12 0) 79 19 0))) rfl ?_
    have hI754 : InvC (u2 (u2 (u2 (u2 dt 79 17 0) 79 12 0) 79 19 0) 79 21 (-1)) := InvC_u2 hI742 (lo := -2147483648) (hi := 2147483647) rfl rfl rfl (by decide) (by decide)
    have hF755 : Fr [79, 80, 82, 83, 84] dt (u2 (u2 (u2 (u2 dt 79 17 0) 79 12 0) 79 19 0) 79 21 (-1)) := Fr_u2 hF743 (by decide)
    have w756 : (u2 (u2 (u2 (u2 dt 79 17 0) 79 12 0) 79 19 0) 79 21 (-1)) 79 2 = (u2 (u2 (u2 dt 79 17 0) 79 12 0) 79 19 0) 79 2 := rfl
    have w757 : (u2 (u2 (u2 (u2 dt 79 17 0) 79 12 0) 79 19 0) 79 21 (-1)) 79 9 = (u2 (u2 (u2 dt 79 17 0) 79 12 0) 79 19 0) 79 9 := rfl
    have w758 : (u2 (u2 (u2 (u2 dt 79 17 0) 79 12 0) 79 19 0) 79 21 (-1)) 79 10 = (u2 (u2 (u2 dt 79 17 0) 79 12 0) 79 19 0) 79 10 := rfl
    have w759 : (u2 (u2 (u2 (u2 dt 79 17 0) 79 12 0) 79 19 0) 79 21 (-1)) 79 11 = (u2 (u2 (u2 dt 79 17 0) 79 12 0) 79 19 0) 79 11 := rfl
    have w760 : (u2 (u2 (u2 (u2 dt 79 17 0) 79 12 0) 79 19 0) 79 21 (-1)) 79 12 = (u2 (u2 (u2 dt 79 17 0) 79 12 0) 79 19 0) 79 12 := rfl
    have w761 : (u2 (u2 (u2 (u2 dt 79 17 0) 79 12 0) 79 19 0) 79 21 (-1)) 79 13 = (u2 (u2 (u2 dt 79 17 0) 79 12 0) 79 19 0) 79 13 := rfl
    have w762 : (u2 (u2 (u2 (u2 dt 79 17 0) 79 12 0) 79 19 0) 79 21 (-1)) 79 14 = (u2 (u2 (u2 dt 79 17 0) 79 12 0) 79 19 0) 79 14 := rfl
    have w763 : (u2 (u2 (u2 (u2 dt 79 17 0) 79 12 0) 79 19 0) 79 21 (-1)) 79 15 = (u2 (u2 (u2 dt 79 17 0) 79 12 0) 79 19 0) 79 15 := rfl
    have E84764 : (u2 (u2 (u2 (u2 dt 79 17 0) 79 12 0) 79 19 0) 79 21 (-1)) 84 = dt 84 := (funext fun _ => rfl).trans E84752
    have E80765 : (u2 (u2 (u2 (u2 dt 79 17 0) 79 12 0) 79 19 0) 79 21 (-1)) 80 = dt 80 := (funext fun _ => u2_ne (fun z => absurd z.1 (by decide))).trans E80753
    refine go_smpq PM174 (L' := [some (.inr (.inr (some 79))), some (.inl p1), some (.inl p2), none]) (st' := []) (w' := (SH, (u2 (u2 (u2 (u2 dt 79 17 0) 79 12 0) 79 19 0) 79 21 (-1)))) rfl rfl (s_pf rfl rfl rfl rfl ⟨by decide, by decide⟩) ?_
    refine go_retq PM174 (k := 1) (r := some (.inl (-1))) (w1 := (SH, (u2 (u2 (u2 (u2 dt 79 17 0) 79 12 0) 79 19 0) 79 21 (-1)))) rfl ?_
    exact ⟨(u2 (u2 (u2 (u2 dt 79 17 0) 79 12 0) 79 19 0) 79 21 (-1)), rfl, hI754, hF755, ⟨_, rfl, ⟨by decide, by decide⟩, ⟨by first | exact True.intro | rfl | omega | trivial, by first | exact True.intro | rfl | omega | trivial, by first | assumption | exact hM, by first | rfl | exact congrFun E80765 0 | exact Eq.trans (by assumption) (congrFun E80765 0), by first | rfl | exact congrFun E80765 1 | exact Eq.trans (by assumption) (congrFun E80765 1), by first | rfl | exact congrFun E80765 2 | exact Eq.trans (by assumption) (congrFun E80765 2), by first | rfl | exact congrFun E80765 3 | exact Eq.trans (by assumption) (congrFun E80765 3), by first | rfl | exact congrFun E80765 4 | exact Eq.trans (by assumption) (congrFun E80765 4), by first | rfl | exact congrFun E80765 5 | exact Eq.trans (by assumption) (congrFun E80765 5)⟩⟩⟩
