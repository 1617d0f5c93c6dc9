set_option maxHeartbeats 8000000 in
set_option maxRecDepth 20000 in
theorem sp_X6_text (L : Nat) (xs : Nat → Int32) (sio : Option Nat) (d : Nat) (dt : Nat → Nat → Int) (hI : InvC dt) (hM : MW (dt 80))  (p1 : Int) (h_p1 : (-2147483648) ≤ p1 ∧ p1 ≤ 2147483647) (p2 : Int) (h_p2 : (-2147483648) ≤ p2 ∧ p2 ≤ 2147483647)  : GO (am_XX L xs sio) (d + 38) 174 0 [some (.inr (.inr (some 79))), some (.inl p1), some (.inl p2), none] [] (SH, dt) (fun r w2 => ∃ dt2 : Nat → Nat → Int, w2 = (SH, dt2) ∧ InvC dt2 ∧ Fr [79, 80, 82, 83, 84] dt dt2 ∧ ((∃ v : Int, r = some (.inl v) ∧ ((-1) ≤ v ∧ v ≤ 24) ∧ (dt2 79 12 = 0) ∧ (dt2 79 2 = dt 79 2) ∧ (MW (dt2 80)) ∧ (dt2 80 0 = dt 80 0) ∧ (dt2 80 1 = dt 80 1) ∧ (dt2 80 2 = dt 80 2) ∧ (dt2 80 3 = dt 80 3) ∧ (dt2 80 4 = dt 80 4) ∧ (dt2 80 5 = dt 80 5)))) := by
  have hF : Fr [79, 80, 82, 83, 84] dt dt := Fr_refl
  have r1 : 0 ≤ dt 79 15 ∧ dt 79 15 ≤ 500 := InvC_get hI 79 15 rfl rfl
  have r2 : 0 ≤ dt 79 11 ∧ dt 79 11 ≤ 510 := InvC_get hI 79 11 rfl rfl
  have r3 : 0 ≤ dt 79 10 ∧ dt 79 10 ≤ 24 := InvC_get hI 79 10 rfl rfl
  refine go_toq PM174 (k := 2) (pc' := 2) (L' := [some (.inr (.inr (some 79))), some (.inl p1), some (.inl p2), none]) (st' := [.inl 0, .inr (.inr (some 79))]) (w' := (SH, dt)) rfl ?_
  have hI4 : InvC (u2 dt 79 17 0) := InvC_u2 hI (lo := -2147483648) (hi := 2147483647) rfl rfl rfl (by decide) (by decide)
  have hF5 : Fr [79, 80, 82, 83, 84] dt (u2 dt 79 17 0) := Fr_u2 hF (by decide)
  have w6 : (u2 dt 79 17 0) 79 2 = dt 79 2 := rfl
  have w7 : (u2 dt 79 17 0) 79 9 = dt 79 9 := rfl
  have w8 : (u2 dt 79 17 0) 79 10 = dt 79 10 := rfl
  have w9 : (u2 dt 79 17 0) 79 11 = dt 79 11 := rfl
  have w10 : (u2 dt 79 17 0) 79 12 = dt 79 12 := rfl
  have w11 : (u2 dt 79 17 0) 79 13 = dt 79 13 := rfl
  have w12 : (u2 dt 79 17 0) 79 14 = dt 79 14 := rfl
  have w13 : (u2 dt 79 17 0) 79 15 = dt 79 15 := rfl
  have E8414 : (u2 dt 79 17 0) 84 = dt 84 := funext fun _ => rfl
  have E8015 : (u2 dt 79 17 0) 80 = dt 80 := (funext fun _ => u2_ne (fun z => absurd z.1 (by decide))).trans rfl
  refine go_smpq PM174 (L' := [some (.inr (.inr (some 79))), some (.inl p1), some (.inl p2), none]) (st' := []) (w' := (SH, (u2 dt 79 17 0))) rfl rfl (s_pf rfl rfl rfl rfl ⟨by decide, by decide⟩) ?_
  refine go_toq PM174 (k := 3) (pc' := 8) (L' := [some (.inr (.inr (some 79))), some (.inl p1), some (.inl p2), none]) (st' := [.inl 1, .inl 0, .inl p1]) (w' := (SH, (u2 dt 79 17 0))) rfl ?_
  refine go_callq PM174 PM146 (Q' := _) rfl rfl rfl rfl (sp_X6_isIn L xs sio (d + 37) (u2 dt 79 17 0) hI4  p1 (by first | exact h_p1 | exact bnd h_p1 (by decide) (by decide) | exact ⟨by omega, by omega⟩) 0 ⟨by decide, by decide⟩ 1 ⟨by decide, by decide⟩ ) ?_
  rintro _ _ ⟨rfl, h16⟩
  refine ⟨rfl, ?_⟩
  rcases h16 with ⟨rfl, h16⟩ | ⟨rfl, h16⟩
  · skip
    refine go_ifq PM174 (k := 4) (p1 := 25) (p2 := 20) (L' := [some (.inr (.inr (some 79))), some (.inl p1), some (.inl p2), none]) (st' := [.inl 0, .inl p2]) (w' := (SH, (u2 dt 79 17 0))) rfl (z_ne (a := p1) (by first | exact bnd h_p1 (by decide) (by decide) | exact ⟨by omega, by omega⟩)) (fun c17 => ?_) (fun c17 => ?_)
    · skip
      replace c17 := hid c17
      refine go_toq PM174 (k := 1) (pc' := 26) (L' := [some (.inr (.inr (some 79))), some (.inl p1), some (.inl p2), none]) (st' := [.inl 3, .inl 0, .inl p2]) (w' := (SH, (u2 dt 79 17 0))) rfl ?_
      refine go_callq PM174 PM146 (Q' := _) rfl rfl rfl rfl (sp_X6_isIn L xs sio (d + 37) (u2 dt 79 17 0) hI4  p2 (by first | exact h_p2 | exact bnd h_p2 (by decide) (by decide) | exact ⟨by (first | omega | (have z0_ := unhid c17; omega)), by (first | omega | (have z0_ := unhid c17; omega))⟩) 0 ⟨by decide, by decide⟩ 3 ⟨by decide, by decide⟩ ) ?_
      rintro _ _ ⟨rfl, h18⟩
      refine ⟨rfl, ?_⟩
      rcases h18 with ⟨rfl, h18⟩ | ⟨rfl, h18⟩
      · skip
        refine go_toq PM174 (k := 3) (pc' := 51) (L' := [some (.inr (.inr (some 79))), some (.inl p1), some (.inl p2), none]) (st' := [.inl p1, .inr (.inr (some 79))]) (w' := (SH, (u2 dt 79 17 0))) rfl ?_
        have hI19 : InvC (u2 (u2 dt 79 17 0) 79 9 p1) := InvC_u2 hI4 (lo := 0) (hi := 1) rfl rfl rfl (by first | exact bnd1 h_p1 (by decide) | (first | omega | (have z0_ := unhid c17; omega))) (by first | exact bnd2 h_p1 (by decide) | (first | omega | (have z0_ := unhid c17; omega)))
        have hF20 : Fr [79, 80, 82, 83, 84] dt (u2 (u2 dt 79 17 0) 79 9 p1) := Fr_u2 hF5 (by decide)
        have w21 : (u2 (u2 dt 79 17 0) 79 9 p1) 79 2 = dt 79 2 := w6
        have w22 : (u2 (u2 dt 79 17 0) 79 9 p1) 79 9 = p1 := rfl
        have w23 : (u2 (u2 dt 79 17 0) 79 9 p1) 79 10 = dt 79 10 := w8
        have w24 : (u2 (u2 dt 79 17 0) 79 9 p1) 79 11 = dt 79 11 := w9
        have w25 : (u2 (u2 dt 79 17 0) 79 9 p1) 79 12 = dt 79 12 := w10
        have w26 : (u2 (u2 dt 79 17 0) 79 9 p1) 79 13 = dt 79 13 := w11
        have w27 : (u2 (u2 dt 79 17 0) 79 9 p1) 79 14 = dt 79 14 := w12
        have w28 : (u2 (u2 dt 79 17 0) 79 9 p1) 79 15 = dt 79 15 := w13
        clear w6 w7 w8 w9 w10 w11 w12 w13
        have E8429 : (u2 (u2 dt 79 17 0) 79 9 p1) 84 = dt 84 := (funext fun _ => rfl).trans E8414
        have E8030 : (u2 (u2 dt 79 17 0) 79 9 p1) 80 = dt 80 := (funext fun _ => u2_ne (fun z => absurd z.1 (by decide))).trans E8015
        refine go_smpq PM174 (L' := [some (.inr (.inr (some 79))), some (.inl p1), some (.inl p2), none]) (st' := []) (w' := (SH, (u2 (u2 dt 79 17 0) 79 9 p1))) rfl rfl (s_pf rfl rfl rfl rfl (by first | exact bnd h_p1 (by decide) (by decide) | exact ⟨by (first | omega | (have z0_ := unhid c17; omega)), by (first | omega | (have z0_ := unhid c17; omega))⟩)) ?_
        refine go_toq PM174 (k := 2) (pc' := 56) (L' := [some (.inr (.inr (some 79))), some (.inl p1), some (.inl p2), none]) (st' := [.inl 0, .inr (.inr (some 79))]) (w' := (SH, (u2 (u2 dt 79 17 0) 79 9 p1))) rfl ?_
        have hI31 : InvC (u2 (u2 (u2 dt 79 17 0) 79 9 p1) 79 13 0) := InvC_u2 hI19 (lo := 0) (hi := 501) rfl rfl rfl (by decide) (by decide)
        have hF32 : Fr [79, 80, 82, 83, 84] dt (u2 (u2 (u2 dt 79 17 0) 79 9 p1) 79 13 0) := Fr_u2 hF20 (by decide)
        have w33 : (u2 (u2 (u2 dt 79 17 0) 79 9 p1) 79 13 0) 79 2 = dt 79 2 := w21
        have w34 : (u2 (u2 (u2 dt 79 17 0) 79 9 p1) 79 13 0) 79 9 = p1 := w22
        have w35 : (u2 (u2 (u2 dt 79 17 0) 79 9 p1) 79 13 0) 79 10 = dt 79 10 := w23
        have w36 : (u2 (u2 (u2 dt 79 17 0) 79 9 p1) 79 13 0) 79 11 = dt 79 11 := w24
        have w37 : (u2 (u2 (u2 dt 79 17 0) 79 9 p1) 79 13 0) 79 12 = dt 79 12 := w25
        have w38 : (u2 (u2 (u2 dt 79 17 0) 79 9 p1) 79 13 0) 79 13 = 0 := rfl
        have w39 : (u2 (u2 (u2 dt 79 17 0) 79 9 p1) 79 13 0) 79 14 = dt 79 14 := w27
        have w40 : (u2 (u2 (u2 dt 79 17 0) 79 9 p1) 79 13 0) 79 15 = dt 79 15 := w28
        clear w21 w22 w23 w24 w25 w26 w27 w28
        have E8441 : (u2 (u2 (u2 dt 79 17 0) 79 9 p1) 79 13 0) 84 = dt 84 := (funext fun _ => rfl).trans E8429
        have E8042 : (u2 (u2 (u2 dt 79 17 0) 79 9 p1) 79 13 0) 80 = dt 80 := (funext fun _ => u2_ne (fun z => absurd z.1 (by decide))).trans E8030
        refine go_smpq PM174 (L' := [some (.inr (.inr (some 79))), some (.inl p1), some (.inl p2), none]) (st' := []) (w' := (SH, (u2 (u2 (u2 dt 79 17 0) 79 9 p1) 79 13 0))) rfl rfl (s_pf rfl rfl rfl rfl ⟨by decide, by decide⟩) ?_
        refine go_toq PM174 (k := 2) (pc' := 61) (L' := [some (.inr (.inr (some 79))), some (.inl p1), some (.inl p2), none]) (st' := [.inl 0, .inr (.inr (some 79))]) (w' := (SH, (u2 (u2 (u2 dt 79 17 0) 79 9 p1) 79 13 0))) rfl ?_
        have hI43 : InvC (u2 (u2 (u2 (u2 dt 79 17 0) 79 9 p1) 79 13 0) 79 10 0) := InvC_u2 hI31 (lo := 0) (hi := 24) rfl rfl rfl (by decide) (by decide)
        have hF44 : Fr [79, 80, 82, 83, 84] dt (u2 (u2 (u2 (u2 dt 79 17 0) 79 9 p1) 79 13 0) 79 10 0) := Fr_u2 hF32 (by decide)
        have w45 : (u2 (u2 (u2 (u2 dt 79 17 0) 79 9 p1) 79 13 0) 79 10 0) 79 2 = dt 79 2 := w33
        have w46 : (u2 (u2 (u2 (u2 dt 79 17 0) 79 9 p1) 79 13 0) 79 10 0) 79 9 = p1 := w34
        have w47 : (u2 (u2 (u2 (u2 dt 79 17 0) 79 9 p1) 79 13 0) 79 10 0) 79 10 = 0 := rfl
        have w48 : (u2 (u2 (u2 (u2 dt 79 17 0) 79 9 p1) 79 13 0) 79 10 0) 79 11 = dt 79 11 := w36
        have w49 : (u2 (u2 (u2 (u2 dt 79 17 0) 79 9 p1) 79 13 0) 79 10 0) 79 12 = dt 79 12 := w37
        have w50 : (u2 (u2 (u2 (u2 dt 79 17 0) 79 9 p1) 79 13 0) 79 10 0) 79 13 = 0 := w38
        have w51 : (u2 (u2 (u2 (u2 dt 79 17 0) 79 9 p1) 79 13 0) 79 10 0) 79 14 = dt 79 14 := w39
        have w52 : (u2 (u2 (u2 (u2 dt 79 17 0) 79 9 p1) 79 13 0) 79 10 0) 79 15 = dt 79 15 := w40
        clear w33 w34 w35 w36 w37 w38 w39 w40
        have E8453 : (u2 (u2 (u2 (u2 dt 79 17 0) 79 9 p1) 79 13 0) 79 10 0) 84 = dt 84 := (funext fun _ => rfl).trans E8441
        have E8054 : (u2 (u2 (u2 (u2 dt 79 17 0) 79 9 p1) 79 13 0) 79 10 0) 80 = dt 80 := (funext fun _ => u2_ne (fun z => absurd z.1 (by decide))).trans E8042
        refine go_smpq PM174 (L' := [some (.inr (.inr (some 79))), some (.inl p1), some (.inl p2), none]) (st' := []) (w' := (SH, (u2 (u2 (u2 (u2 dt 79 17 0) 79 9 p1) 79 13 0) 79 10 0))) rfl rfl (s_pf rfl rfl rfl rfl ⟨by decide, by decide⟩) ?_
        refine go_toq PM174 (k := 2) (pc' := 66) (L' := [some (.inr (.inr (some 79))), some (.inl p1), some (.inl p2), none]) (st' := [.inl 0, .inr (.inr (some 79))]) (w' := (SH, (u2 (u2 (u2 (u2 dt 79 17 0) 79 9 p1) 79 13 0) 79 10 0))) rfl ?_
        have hI55 : InvC (u2 (u2 (u2 (u2 (u2 dt 79 17 0) 79 9 p1) 79 13 0) 79 10 0) 79 11 0) := InvC_u2 hI43 (lo := 0) (hi := 510) rfl rfl rfl (by decide) (by decide)
        have hF56 : Fr [79, 80, 82, 83, 84] dt (u2 (u2 (u2 (u2 (u2 dt 79 17 0) 79 9 p1) 79 13 0) 79 10 0) 79 11 0) := Fr_u2 hF44 (by decide)
        have w57 : (u2 (u2 (u2 (u2 (u2 dt 79 17 0) 79 9 p1) 79 13 0) 79 10 0) 79 11 0) 79 2 = dt 79 2 := w45
        have w58 : (u2 (u2 (u2 (u2 (u2 dt 79 17 0) 79 9 p1) 79 13 0) 79 10 0) 79 11 0) 79 9 = p1 := w46
        have w59 : (u2 (u2 (u2 (u2 (u2 dt 79 17 0) 79 9 p1) 79 13 0) 79 10 0) 79 11 0) 79 10 = 0 := w47
        have w60 : (u2 (u2 (u2 (u2 (u2 dt 79 17 0) 79 9 p1) 79 13 0) 79 10 0) 79 11 0) 79 11 = 0 := rfl
        have w61 : (u2 (u2 (u2 (u2 (u2 dt 79 17 0) 79 9 p1) 79 13 0) 79 10 0) 79 11 0) 79 12 = dt 79 12 := w49
        have w62 : (u2 (u2 (u2 (u2 (u2 dt 79 17 0) 79 9 p1) 79 13 0) 79 10 0) 79 11 0) 79 13 = 0 := w50
        have w63 : (u2 (u2 (u2 (u2 (u2 dt 79 17 0) 79 9 p1) 79 13 0) 79 10 0) 79 11 0) 79 14 = dt 79 14 := w51
        have w64 : (u2 (u2 (u2 (u2 (u2 dt 79 17 0) 79 9 p1) 79 13 0) 79 10 0) 79 11 0) 79 15 = dt 79 15 := w52
        clear w45 w46 w47 w48 w49 w50 w51 w52
        have E8465 : (u2 (u2 (u2 (u2 (u2 dt 79 17 0) 79 9 p1) 79 13 0) 79 10 0) 79 11 0) 84 = dt 84 := (funext fun _ => rfl).trans E8453
        have E8066 : (u2 (u2 (u2 (u2 (u2 dt 79 17 0) 79 9 p1) 79 13 0) 79 10 0) 79 11 0) 80 = dt 80 := (funext fun _ => u2_ne (fun z => absurd z.1 (by decide))).trans E8054
        refine go_smpq PM174 (L' := [some (.inr (.inr (some 79))), some (.inl p1), some (.inl p2), none]) (st' := []) (w' := (SH, (u2 (u2 (u2 (u2 (u2 dt 79 17 0) 79 9 p1) 79 13 0) 79 10 0) 79 11 0))) rfl rfl (s_pf rfl rfl rfl rfl ⟨by decide, by decide⟩) ?_
        refine go_toq PM174 (k := 1) (pc' := 70) (L' := [some (.inr (.inr (some 79))), some (.inl p1), some (.inl p2), none]) (st' := [.inr (.inr (some 79))]) (w' := (SH, (u2 (u2 (u2 (u2 (u2 dt 79 17 0) 79 9 p1) 79 13 0) 79 10 0) 79 11 0))) rfl ?_
        refine go_callq PM174 PM159 (Q' := _) rfl rfl rfl rfl (sp_X6_next0 L xs sio (d + 31) (u2 (u2 (u2 (u2 (u2 dt 79 17 0) 79 9 p1) 79 13 0) 79 10 0) 79 11 0) hI55   (by first | exact True.intro | with_reducible assumption | exact unhid (by with_reducible assumption) | rfl | (first | omega | (have z0_ := unhid c17; omega)) | trivial | exact hI4 (by (first | omega | (have z0_ := unhid c17; omega))) (by (first | omega | (have z0_ := unhid c17; omega))) | exact hI5 (by (first | omega | (have z0_ := unhid c17; omega))) (by (first | omega | (have z0_ := unhid c17; omega))))) ?_
        rintro _ _ ⟨dt68, rfl, hI69, hF70, h67⟩
        refine ⟨rfl, ?_⟩
        have hF71 : Fr [79, 80, 82, 83, 84] dt dt68 := Fr_tr hF56 hF70 (by decide)
        have hM72 : MW (dt68 80) := MW_fr (d0 := (u2 (u2 (u2 (u2 (u2 dt 79 17 0) 79 9 p1) 79 13 0) 79 10 0) 79 11 0)) hM hF70 (by decide)
        have E8073 : dt68 80 = dt 80 := (funext (hF70 80 (by decide))).trans E8066
        have E8474 : dt68 84 = dt 84 := (funext (hF70 84 (by decide))).trans E8465
        rcases h67 with ⟨rfl, h67⟩
        obtain ⟨h67_0, h67_1, h67_2, h67_3, h67_4, h67_5, h67_6, h67_7, h67_8⟩ := h67
        have w75 : dt68 79 2 = dt 79 2 := h67_3.trans w57
        have w76 : dt68 79 9 = p1 := h67_4.trans w58
        have w77 : dt68 79 10 = 0 := h67_5.trans w59
        have w78 : dt68 79 11 = 0 := h67_6.trans w60
        have w79 : dt68 79 12 = dt 79 12 := h67_7.trans w61
        clear h67_3 w57 h67_4 w58 h67_5 w59 h67_6 w60 h67_7 w61
        refine go_toq PM174 (k := 2) (pc' := 75) (L' := [some (.inr (.inr (some 79))), some (.inl p1), some (.inl p2), some (.inl 1)]) (st' := []) (w' := (SH, dt68)) rfl ?_
        have loop139 : ∀ (k_ : Nat) (l75_3 : Int) (dt126 : Nat → Nat → Int) (hI127 : InvC dt126) (hF128 : Fr [79, 80, 82, 83, 84] dt dt126) (hM_dt126 : MW (dt126 80)) (i129 : 0 ≤ l75_3 ∧ l75_3 ≤ 1) (i130 : l75_3 = 1 → (¬ dt126 79 14 = 0 → dt126 79 15 + 1 ≤ dt126 79 13) ∧ dt126 79 13 ≤ 500) (i131 : dt126 79 15 ≤ 500) (i132 : l75_3 = 1 → dt126 79 11 ≤ dt126 79 15) (i133 : l75_3 = 1 → p1 = 1 → dt126 79 10 ≤ 16) (i134 : l75_3 = 1 → p1 = 0 → ARW (dt126 82) (dt126 79 10)) (i135 : l75_3 = 1 → p1 = 1 → LRW (dt126 83) (dt126 84) (dt126 79 10) (dt126 79 11)) (i136 : dt126 79 2 = dt 79 2) (i137 : dt126 79 9 = p1) (i138 : dt126 80 = dt 80), (l75_3 * (502 - dt126 79 15)).toNat < k_ → GO (am_XX L xs sio) (d + 38) 174 75 [some (.inr (.inr (some 79))), some (.inl p1), some (.inl p2), some (.inl l75_3)] [] (SH, dt126) (fun r w2 => ∃ dt2 : Nat → Nat → Int, w2 = (SH, dt2) ∧ InvC dt2 ∧ Fr [79, 80, 82, 83, 84] dt dt2 ∧ ((∃ v : Int, r = some (.inl v) ∧ ((-1) ≤ v ∧ v ≤ 24) ∧ (dt2 79 12 = 0) ∧ (dt2 79 2 = dt 79 2) ∧ (MW (dt2 80)) ∧ (dt2 80 0 = dt 80 0) ∧ (dt2 80 1 = dt 80 1) ∧ (dt2 80 2 = dt 80 2) ∧ (dt2 80 3 = dt 80 3) ∧ (dt2 80 4 = dt 80 4) ∧ (dt2 80 5 = dt 80 5)))) := by
          intro k_
          induction k_ with
          | zero => intro l75_3 dt126 hI127 hF128 hM_dt126 i129 i130 i131 i132 i133 i134 i135 i136 i137 i138 hm; exact absurd hm (Nat.not_lt_zero _)
          | succ k_ ih_loop139 =>
            intro l75_3 dt126 hI127 hF128 hM_dt126 i129 i130 i131 i132 i133 i134 i135 i136 i137 i138 hm
            replace i130 := hid i130
            replace i132 := hid i132
            replace i133 := hid i133
            replace i134 := hid i134
            replace i135 := hid i135
            have q10 : 0 ≤ dt126 79 10 ∧ dt126 79 10 ≤ 24 := InvC_get (by assumption) 79 10 rfl rfl
            have q11 : 0 ≤ dt126 79 11 ∧ dt126 79 11 ≤ 510 := InvC_get (by assumption) 79 11 rfl rfl
            have hE80 := i138
            have hI4 := i134
            have hI5 := i135
            have hm1 : l75_3 = 1 → (l75_3 * (502 - dt126 79 15)).toNat = (502 - dt126 79 15).toNat := fun e => by rw [e, Int.one_mul]
            replace hm1 := hid hm1
            have u1_ := hid (And.intro (unhid c17) (And.intro (unhid i130) (And.intro (unhid i132) (And.intro (unhid i133) (unhid hm1)))))
            refine go_ifq PM174 (k := 1) (p1 := 123) (p2 := 79) (L' := [some (.inr (.inr (some 79))), some (.inl p1), some (.inl p2), some (.inl l75_3)]) (st' := []) (w' := (SH, dt126)) rfl (z_eq (a := l75_3) (by first | exact bnd i129 (by decide) (by decide) | exact ⟨by (first | omega | (have z_ := unhid u1_; omega)), by (first | omega | (have z_ := unhid u1_; omega))⟩)) (fun c140 => ?_) (fun c140 => ?_)
            · skip
              refine go_toq PM174 (k := 2) (pc' := 125) (L' := [some (.inr (.inr (some 79))), some (.inl p1), some (.inl p2), some (.inl l75_3)]) (st' := [.inl 0, .inr (.inr (some 79))]) (w' := (SH, dt126)) rfl ?_
              have hI141 : InvC (u2 dt126 79 12 0) := InvC_u2 hI127 (lo := 0) (hi := 500) rfl rfl rfl (by decide) (by decide)
              have hF142 : Fr [79, 80, 82, 83, 84] dt (u2 dt126 79 12 0) := Fr_u2 hF128 (by decide)
              have w143 : (u2 dt126 79 12 0) 79 2 = dt126 79 2 := rfl
              have w144 : (u2 dt126 79 12 0) 79 9 = dt126 79 9 := rfl
              have w145 : (u2 dt126 79 12 0) 79 10 = dt126 79 10 := rfl
              have w146 : (u2 dt126 79 12 0) 79 11 = dt126 79 11 := rfl
              have w147 : (u2 dt126 79 12 0) 79 12 = 0 := rfl
              have w148 : (u2 dt126 79 12 0) 79 13 = dt126 79 13 := rfl
              have w149 : (u2 dt126 79 12 0) 79 14 = dt126 79 14 := rfl
              have w150 : (u2 dt126 79 12 0) 79 15 = dt126 79 15 := rfl
              have E84151 : (u2 dt126 79 12 0) 84 = dt126 84 := funext fun _ => rfl
              have E80152 : (u2 dt126 79 12 0) 80 = dt 80 := (funext fun _ => u2_ne (fun z => absurd z.1 (by decide))).trans hE80
              refine go_smpq PM174 (L' := [some (.inr (.inr (some 79))), some (.inl p1), some (.inl p2), some (.inl l75_3)]) (st' := []) (w' := (SH, (u2 dt126 79 12 0))) rfl rfl (s_pf rfl rfl rfl rfl ⟨by decide, by decide⟩) ?_
              have r153 : (-2147483648) ≤ dt126 79 17 ∧ dt126 79 17 ≤ 2147483647 := InvC_get hI127 79 17 rfl rfl
              refine go_toq PM174 (k := 3) (pc' := 133) (L' := [some (.inr (.inr (some 79))), some (.inl p1), some (.inl p2), some (.inl l75_3)]) (st' := [.inl (dt126 79 17), .inr (.inr (some 79))]) (w' := (SH, (u2 dt126 79 12 0))) rfl ?_
              have hI154 : InvC (u2 (u2 dt126 79 12 0) 79 19 (dt126 79 17)) := InvC_u2 hI141 (lo := -2147483648) (hi := 2147483647) rfl rfl rfl (by first | exact bnd1 r153 (by decide) | (first | omega | (have z_ := unhid u1_; omega))) (by first | exact bnd2 r153 (by decide) | (first | omega | (have z_ := unhid u1_; omega)))
              have hF155 : Fr [79, 80, 82, 83, 84] dt (u2 (u2 dt126 79 12 0) 79 19 (dt126 79 17)) := Fr_u2 hF142 (by decide)
              have w156 : (u2 (u2 dt126 79 12 0) 79 19 (dt126 79 17)) 79 2 = dt126 79 2 := w143
              have w157 : (u2 (u2 dt126 79 12 0) 79 19 (dt126 79 17)) 79 9 = dt126 79 9 := w144
              have w158 : (u2 (u2 dt126 79 12 0) 79 19 (dt126 79 17)) 79 10 = dt126 79 10 := w145
              have w159 : (u2 (u2 dt126 79 12 0) 79 19 (dt126 79 17)) 79 11 = dt126 79 11 := w146
              have w160 : (u2 (u2 dt126 79 12 0) 79 19 (dt126 79 17)) 79 12 = 0 := w147
              have w161 : (u2 (u2 dt126 79 12 0) 79 19 (dt126 79 17)) 79 13 = dt126 79 13 := w148
              have w162 : (u2 (u2 dt126 79 12 0) 79 19 (dt126 79 17)) 79 14 = dt126 79 14 := w149
              have w163 : (u2 (u2 dt126 79 12 0) 79 19 (dt126 79 17)) 79 15 = dt126 79 15 := w150
              clear w143 w144 w145 w146 w147 w148 w149 w150
              have E84164 : (u2 (u2 dt126 79 12 0) 79 19 (dt126 79 17)) 84 = dt126 84 := (funext fun _ => rfl).trans E84151
              have E80165 : (u2 (u2 dt126 79 12 0) 79 19 (dt126 79 17)) 80 = dt 80 := (funext fun _ => u2_ne (fun z => absurd z.1 (by decide))).trans E80152
              refine go_smpq PM174 (L' := [some (.inr (.inr (some 79))), some (.inl p1), some (.inl p2), some (.inl l75_3)]) (st' := []) (w' := (SH, (u2 (u2 dt126 79 12 0) 79 19 (dt126 79 17)))) rfl rfl (s_pf rfl rfl rfl rfl (by first | exact bnd r153 (by decide) (by decide) | exact ⟨by (first | omega | (have z_ := unhid u1_; omega)), by (first | omega | (have z_ := unhid u1_; omega))⟩)) ?_
              refine go_ifq PM174 (k := 2) (p1 := 145) (p2 := 141) (L' := [some (.inr (.inr (some 79))), some (.inl p1), some (.inl p2), some (.inl l75_3)]) (st' := [.inr (.inr (some 79))]) (w' := (SH, (u2 (u2 dt126 79 12 0) 79 19 (dt126 79 17)))) rfl (z_eq (a := l75_3) (by first | exact bnd i129 (by decide) (by decide) | exact ⟨by (first | omega | (have z_ := unhid u1_; omega)), by (first | omega | (have z_ := unhid u1_; omega))⟩)) (fun c166 => ?_) (fun c166 => ?_)
              · skip
                have r167 : (-2147483648) ≤ dt126 79 18 ∧ dt126 79 18 ≤ 2147483647 := InvC_get hI127 79 18 rfl rfl
                refine go_toq PM174 (k := 2) (pc' := 149) (L' := [some (.inr (.inr (some 79))), some (.inl p1), some (.inl p2), some (.inl l75_3)]) (st' := [.inl (dt126 79 18), .inr (.inr (some 79))]) (w' := (SH, (u2 (u2 dt126 79 12 0) 79 19 (dt126 79 17)))) rfl ?_
                have hI168 : InvC (u2 (u2 (u2 dt126 79 12 0) 79 19 (dt126 79 17)) 79 21 (dt126 79 18)) := InvC_u2 hI154 (lo := -2147483648) (hi := 2147483647) rfl rfl rfl (by first | exact bnd1 r167 (by decide) | (first | omega | (have z_ := unhid u1_; omega))) (by first | exact bnd2 r167 (by decide) | (first | omega | (have z_ := unhid u1_; omega)))
                have hF169 : Fr [79, 80, 82, 83, 84] dt (u2 (u2 (u2 dt126 79 12 0) 79 19 (dt126 79 17)) 79 21 (dt126 79 18)) := Fr_u2 hF155 (by decide)
                have w170 : (u2 (u2 (u2 dt126 79 12 0) 79 19 (dt126 79 17)) 79 21 (dt126 79 18)) 79 2 = dt126 79 2 := w156
                have w171 : (u2 (u2 (u2 dt126 79 12 0) 79 19 (dt126 79 17)) 79 21 (dt126 79 18)) 79 9 = dt126 79 9 := w157
                have w172 : (u2 (u2 (u2 dt126 79 12 0) 79 19 (dt126 79 17)) 79 21 (dt126 79 18)) 79 10 = dt126 79 10 := w158
                have w173 : (u2 (u2 (u2 dt126 79 12 0) 79 19 (dt126 79 17)) 79 21 (dt126 79 18)) 79 11 = dt126 79 11 := w159
                have w174 : (u2 (u2 (u2 dt126 79 12 0) 79 19 (dt126 79 17)) 79 21 (dt126 79 18)) 79 12 = 0 := w160
                have w175 : (u2 (u2 (u2 dt126 79 12 0) 79 19 (dt126 79 17)) 79 21 (dt126 79 18)) 79 13 = dt126 79 13 := w161
                have w176 : (u2 (u2 (u2 dt126 79 12 0) 79 19 (dt126 79 17)) 79 21 (dt126 79 18)) 79 14 = dt126 79 14 := w162
                have w177 : (u2 (u2 (u2 dt126 79 12 0) 79 19 (dt126 79 17)) 79 21 (dt126 79 18)) 79 15 = dt126 79 15 := w163
                clear w156 w157 w158 w159 w160 w161 w162 w163
                have E84178 : (u2 (u2 (u2 dt126 79 12 0) 79 19 (dt126 79 17)) 79 21 (dt126 79 18)) 84 = dt126 84 := (funext fun _ => rfl).trans E84164
                have E80179 : (u2 (u2 (u2 dt126 79 12 0) 79 19 (dt126 79 17)) 79 21 (dt126 79 18)) 80 = dt 80 := (funext fun _ => u2_ne (fun z => absurd z.1 (by decide))).trans E80165
                refine go_smpq PM174 (L' := [some (.inr (.inr (some 79))), some (.inl p1), some (.inl p2), some (.inl l75_3)]) (st' := []) (w' := (SH, (u2 (u2 (u2 dt126 79 12 0) 79 19 (dt126 79 17)) 79 21 (dt126 79 18)))) rfl rfl (s_pf rfl rfl rfl rfl (by first | exact bnd r167 (by decide) (by decide) | exact ⟨by (first | omega | (have z_ := unhid u1_; omega)), by (first | omega | (have z_ := unhid u1_; omega))⟩)) ?_
                refine go_ifq PM174 (k := 1) (p1 := 158) (p2 := 156) (L' := [some (.inr (.inr (some 79))), some (.inl p1), some (.inl p2), some (.inl l75_3)]) (st' := []) (w' := (SH, (u2 (u2 (u2 dt126 79 12 0) 79 19 (dt126 79 17)) 79 21 (dt126 79 18)))) rfl (z_ne (a := l75_3) (by first | exact bnd i129 (by decide) (by decide) | exact ⟨by (first | omega | (have z_ := unhid u1_; omega)), by (first | omega | (have z_ := unhid u1_; omega))⟩)) (fun c180 => ?_) (fun c180 => ?_)
                · skip
                  replace c180 := hid c180
                  refine go_toq PM174 (k := 2) (pc' := 160) (L' := [some (.inr (.inr (some 79))), some (.inl p1), some (.inl p2), some (.inl l75_3)]) (st' := [.inl p2, .inr (.inr (some 79))]) (w' := (SH, (u2 (u2 (u2 dt126 79 12 0) 79 19 (dt126 79 17)) 79 21 (dt126 79 18)))) rfl ?_
                  have u2_ := hid (And.intro (unhid c17) (And.intro (unhid i130) (And.intro (unhid i132) (And.intro (unhid i133) (And.intro (unhid hm1) (unhid c180))))))
                  refine go_callq PM174 PM175 (Q' := _) rfl rfl rfl rfl (sp_X6_keeps_k1 L xs sio (d + 37) (u2 (u2 (u2 dt126 79 12 0) 79 19 (dt126 79 17)) 79 21 (dt126 79 18)) hI168 hM_dt126  p2 (by first | exact h_p2 | exact bnd h_p2 (by decide) (by decide) | exact ⟨by (first | omega | (have z_ := unhid u2_; omega)), by (first | omega | (have z_ := unhid u2_; omega))⟩) (by first | exact True.intro | with_reducible assumption | exact unhid (by with_reducible assumption) | rfl | (first | omega | (have z_ := unhid u2_; omega)) | trivial | exact hI4 (by (first | omega | (have z_ := unhid u2_; omega))) (by (first | omega | (have z_ := unhid u2_; omega))) | exact hI5 (by (first | omega | (have z_ := unhid u2_; omega))) (by (first | omega | (have z_ := unhid u2_; omega)))) (by first | exact True.intro | with_reducible assumption | exact unhid (by with_reducible assumption) | rfl | (first | omega | (have z_ := unhid u2_; omega)) | trivial | exact hI4 (by (first | omega | (have z_ := unhid u2_; omega))) (by (first | omega | (have z_ := unhid u2_; omega))) | exact hI5 (by (first | omega | (have z_ := unhid u2_; omega))) (by (first | omega | (have z_ := unhid u2_; omega)))) (by first | exact True.intro | with_reducible assumption | exact unhid (by with_reducible assumption) | rfl | (first | omega | (have z_ := unhid u2_; omega)) | trivial | exact hI4 (by (first | omega | (have z_ := unhid u2_; omega))) (by (first | omega | (have z_ := unhid u2_; omega))) | exact hI5 (by (first | omega | (have z_ := unhid u2_; omega))) (by (first | omega | (have z_ := unhid u2_; omega)))) (by first | exact True.intro | with_reducible assumption | exact unhid (by with_reducible assumption) | rfl | (first | omega | (have z_ := unhid u2_; omega)) | trivial | exact hI4 (by (first | omega | (have z_ := unhid u2_; omega))) (by (first | omega | (have z_ := unhid u2_; omega))) | exact hI5 (by (first | omega | (have z_ := unhid u2_; omega))) (by (first | omega | (have z_ := unhid u2_; omega))))) ?_
                  rintro _ _ ⟨dt182, rfl, hI183, hF184, h181⟩
                  refine ⟨rfl, ?_⟩
                  have hF185 : Fr [79, 80, 82, 83, 84] dt dt182 := Fr_tr hF169 hF184 (by decide)
                  have w186 : dt182 79 2 = dt126 79 2 := (hF184 79 (by decide) 2).trans w170
                  have w187 : dt182 79 9 = dt126 79 9 := (hF184 79 (by decide) 9).trans w171
                  have w188 : dt182 79 10 = dt126 79 10 := (hF184 79 (by decide) 10).trans w172
                  have w189 : dt182 79 11 = dt126 79 11 := (hF184 79 (by decide) 11).trans w173
                  have w190 : dt182 79 12 = 0 := (hF184 79 (by decide) 12).trans w174
                  have w191 : dt182 79 13 = dt126 79 13 := (hF184 79 (by decide) 13).trans w175
                  have w192 : dt182 79 14 = dt126 79 14 := (hF184 79 (by decide) 14).trans w176
                  have w193 : dt182 79 15 = dt126 79 15 := (hF184 79 (by decide) 15).trans w177
                  clear w170 w171 w172 w173 w174 w175 w176 w177
                  have E84194 : dt182 84 = dt126 84 := (funext (hF184 84 (by decide))).trans E84178
                  rcases h181 with ⟨rfl, h181⟩
                  have hM195 : MW (dt182 80) := h181.1
                  obtain ⟨h181_0, h181_1, h181_2, h181_3, h181_4, h181_5, h181_6⟩ := h181
                  have r196 : 0 ≤ dt182 79 10 ∧ dt182 79 10 ≤ 24 := InvC_get hI183 79 10 rfl rfl
                  refine go_retq PM174 (k := 2) (r := some (.inl (dt182 79 10))) (w1 := (SH, dt182)) rfl ?_
                  exact ⟨dt182, rfl, hI183, hF185, ⟨_, rfl, (by first | exact bnd r196 (by decide) (by decide) | exact ⟨by (first | omega | (have z_ := unhid u2_; omega)), by (first | omega | (have z_ := unhid u2_; omega))⟩), ⟨by first | exact True.intro | with_reducible assumption | exact unhid (by with_reducible assumption) | rfl | (first | omega | (have z_ := unhid u2_; omega)) | trivial, by first | exact True.intro | with_reducible assumption | exact unhid (by with_reducible assumption) | rfl | (first | omega | (have z_ := unhid u2_; omega)) | trivial, by first | assumption | exact hM, by first | rfl | exact congrFun E80179 0 | exact Eq.trans (by assumption) (congrFun E80179 0), by first | rfl | exact congrFun E80179 1 | exact Eq.trans (by assumption) (congrFun E80179 1), by first | rfl | exact congrFun E80179 2 | exact Eq.trans (by assumption) (congrFun E80179 2), by first | rfl | exact congrFun E80179 3 | exact Eq.trans (by assumption) (congrFun E80179 3), by first | rfl | exact congrFun E80179 4 | exact Eq.trans (by assumption) (congrFun E80179 4), by first | rfl | exact congrFun E80179 5 | exact Eq.trans (by assumption) (congrFun E80179 5)⟩⟩⟩
                · skip
                  refine go_retq PM174 (k := 1) (r := some (.inl (-1))) (w1 := (SH, (u2 (u2 (u2 dt126 79 12 0) 79 19 (dt126 79 17)) 79 21 (dt126 79 18)))) rfl ?_
                  exact ⟨(u2 (u2 (u2 dt126 79 12 0) 79 19 (dt126 79 17)) 79 21 (dt126 79 18)), rfl, hI168, hF169, ⟨_, rfl, ⟨by decide, by decide⟩, ⟨by first | exact True.intro | with_reducible assumption | exact unhid (by with_reducible assumption) | rfl | (first | omega | (have z_ := unhid u1_; omega)) | trivial, by first | exact True.intro | with_reducible assumption | exact unhid (by with_reducible assumption) | rfl | (first | omega | (have z_ := unhid u1_; omega)) | trivial, by first | assumption | exact hM, by first | rfl | exact congrFun E80179 0 | exact Eq.trans (by assumption) (congrFun E80179 0), by first | rfl | exact congrFun E80179 1 | exact Eq.trans (by assumption) (congrFun E80179 1), by first | rfl | exact congrFun E80179 2 | exact Eq.trans (by assumption) (congrFun E80179 2), by first | rfl | exact congrFun E80179 3 | exact Eq.trans (by assumption) (congrFun E80179 3), by first | rfl | exact congrFun E80179 4 | exact Eq.trans (by assumption) (congrFun E80179 4), by first | rfl | exact congrFun E80179 5 | exact Eq.trans (by assumption) (congrFun E80179 5)⟩⟩⟩
              · skip
                replace c166 := hid c166
                refine go_toq PM174 (k := 2) (pc' := 149) (L' := [some (.inr (.inr (some 79))), some (.inl p1), some (.inl p2), some (.inl l75_3)]) (st' := [.inl (-1), .inr (.inr (some 79))]) (w' := (SH, (u2 (u2 dt126 79 12 0) 79 19 (dt126 79 17)))) rfl ?_
                have hI197 : InvC (u2 (u2 (u2 dt126 79 12 0) 79 19 (dt126 79 17)) 79 21 (-1)) := InvC_u2 hI154 (lo := -2147483648) (hi := 2147483647) rfl rfl rfl (by decide) (by decide)
                have hF198 : Fr [79, 80, 82, 83, 84] dt (u2 (u2 (u2 dt126 79 12 0) 79 19 (dt126 79 17)) 79 21 (-1)) := Fr_u2 hF155 (by decide)
                have w199 : (u2 (u2 (u2 dt126 79 12 0) 79 19 (dt126 79 17)) 79 21 (-1)) 79 2 = dt126 79 2 := w156
                have w200 : (u2 (u2 (u2 dt126 79 12 0) 79 19 (dt126 79 17)) 79 21 (-1)) 79 9 = dt126 79 9 := w157
                have w201 : (u2 (u2 (u2 dt126 79 12 0) 79 19 (dt126 79 17)) 79 21 (-1)) 79 10 = dt126 79 10 := w158
                have w202 : (u2 (u2 (u2 dt126 79 12 0) 79 19 (dt126 79 17)) 79 21 (-1)) 79 11 = dt126 79 11 := w159
                have w203 : (u2 (u2 (u2 dt126 79 12 0) 79 19 (dt126 79 17)) 79 21 (-1)) 79 12 = 0 := w160
                have w204 : (u2 (u2 (u2 dt126 79 12 0) 79 19 (dt126 79 17)) 79 21 (-1)) 79 13 = dt126 79 13 := w161
                have w205 : (u2 (u2 (u2 dt126 79 12 0) 79 19 (dt126 79 17)) 79 21 (-1)) 79 14 = dt126 79 14 := w162
                have w206 : (u2 (u2 (u2 dt126 79 12 0) 79 19 (dt126 79 17)) 79 21 (-1)) 79 15 = dt126 79 15 := w163
                clear w156 w157 w158 w159 w160 w161 w162 w163
                have E84207 : (u2 (u2 (u2 dt126 79 12 0) 79 19 (dt126 79 17)) 79 21 (-1)) 84 = dt126 84 := (funext fun _ => rfl).trans E84164
                have E80208 : (u2 (u2 (u2 dt126 79 12 0) 79 19 (dt126 79 17)) 79 21 (-1)) 80 = dt 80 := (funext fun _ => u2_ne (fun z => absurd z.1 (by decide))).trans E80165
                refine go_smpq PM174 (L' := [some (.inr (.inr (some 79))), some (.inl p1), some (.inl p2), some (.inl l75_3)]) (st' := []) (w' := (SH, (u2 (u2 (u2 dt126 79 12 0) 79 19 (dt126 79 17)) 79 21 (-1)))) rfl rfl (s_pf rfl rfl rfl rfl ⟨by decide, by decide⟩) ?_
                have u3_ := hid (And.intro (unhid c17) (And.intro (unhid i130) (And.intro (unhid i132) (And.intro (unhid i133) (And.intro (unhid hm1) (unhid c166))))))
                refine go_ifq PM174 (k := 1) (p1 := 158) (p2 := 156) (L' := [some (.inr (.inr (some 79))), some (.inl p1), some (.inl p2), some (.inl l75_3)]) (st' := []) (w' := (SH, (u2 (u2 (u2 dt126 79 12 0) 79 19 (dt126 79 17)) 79 21 (-1)))) rfl (z_ne (a := l75_3) (by first | exact bnd i129 (by decide) (by decide) | exact ⟨by (first | omega | (have z_ := unhid u3_; omega)), by (first | omega | (have z_ := unhid u3_; omega))⟩)) (fun c209 => ?_) (fun c209 => ?_)
                · skip
                  replace c209 := hid c209
                  refine go_toq PM174 (k := 2) (pc' := 160) (L' := [some (.inr (.inr (some 79))), some (.inl p1), some (.inl p2), some (.inl l75_3)]) (st' := [.inl p2, .inr (.inr (some 79))]) (w' := (SH, (u2 (u2 (u2 dt126 79 12 0) 79 19 (dt126 79 17)) 79 21 (-1)))) rfl ?_
                  have u4_ := hid (And.intro (unhid c17) (And.intro (unhid i130) (And.intro (unhid i132) (And.intro (unhid i133) (And.intro (unhid hm1) (And.intro (unhid c166) (unhid c209)))))))
                  refine go_callq PM174 PM175 (Q' := _) rfl rfl rfl rfl (sp_X6_keeps_k1 L xs sio (d + 37) (u2 (u2 (u2 dt126 79 12 0) 79 19 (dt126 79 17)) 79 21 (-1)) hI197 hM_dt126  p2 (by first | exact h_p2 | exact bnd h_p2 (by decide) (by decide) | exact ⟨by (first | omega | (have z_ := unhid u4_; omega)), by (first | omega | (have z_ := unhid u4_; omega))⟩) (by first | exact True.intro | with_reducible assumption | exact unhid (by with_reducible assumption) | rfl | (first | omega | (have z_ := unhid u4_; omega)) | trivial | exact hI4 (by (first | omega | (have z_ := unhid u4_; omega))) (by (first | omega | (have z_ := unhid u4_; omega))) | exact hI5 (by (first | omega | (have z_ := unhid u4_; omega))) (by (first | omega | (have z_ := unhid u4_; omega)))) (by first | exact True.intro | with_reducible assumption | exact unhid (by with_reducible assumption) | rfl | (first | omega | (have z_ := unhid u4_; omega)) | trivial | exact hI4 (by (first | omega | (have z_ := unhid u4_; omega))) (by (first | omega | (have z_ := unhid u4_; omega))) | exact hI5 (by (first | omega | (have z_ := unhid u4_; omega))) (by (first | omega | (have z_ := unhid u4_; omega)))) (by first | exact True.intro | with_reducible assumption | exact unhid (by with_reducible assumption) | rfl | (first | omega | (have z_ := unhid u4_; omega)) | trivial | exact hI4 (by (first | omega | (have z_ := unhid u4_; omega))) (by (first | omega | (have z_ := unhid u4_; omega))) | exact hI5 (by (first | omega | (have z_ := unhid u4_; omega))) (by (first | omega | (have z_ := unhid u4_; omega)))) (by first | exact True.intro | with_reducible assumption | exact unhid (by with_reducible assumption) | rfl | (first | omega | (have z_ := unhid u4_; omega)) | trivial | exact hI4 (by (first | omega | (have z_ := unhid u4_; omega))) (by (first | omega | (have z_ := unhid u4_; omega))) | exact hI5 (by (first | omega | (have z_ := unhid u4_; omega))) (by (first | omega | (have z_ := unhid u4_; omega))))) ?_
                  rintro _ _ ⟨dt211, rfl, hI212, hF213, h210⟩
                  refine ⟨rfl, ?_⟩
                  have hF214 : Fr [79, 80, 82, 83, 84] dt dt211 := Fr_tr hF198 hF213 (by decide)
                  have w215 : dt211 79 2 = dt126 79 2 := (hF213 79 (by decide) 2).trans w199
                  have w216 : dt211 79 9 = dt126 79 9 := (hF213 79 (by decide) 9).trans w200
                  have w217 : dt211 79 10 = dt126 79 10 := (hF213 79 (by decide) 10).trans w201
                  have w218 : dt211 79 11 = dt126 79 11 := (hF213 79 (by decide) 11).trans w202
                  have w219 : dt211 79 12 = 0 := (hF213 79 (by decide) 12).trans w203
                  have w220 : dt211 79 13 = dt126 79 13 := (hF213 79 (by decide) 13).trans w204
                  have w221 : dt211 79 14 = dt126 79 14 := (hF213 79 (by decide) 14).trans w205
                  have w222 : dt211 79 15 = dt126 79 15 := (hF213 79 (by decide) 15).trans w206
                  clear w199 w200 w201 w202 w203 w204 w205 w206
                  have E84223 : dt211 84 = dt126 84 := (funext (hF213 84 (by decide))).trans E84207
                  rcases h210 with ⟨rfl, h210⟩
                  have hM224 : MW (dt211 80) := h210.1
                  obtain ⟨h210_0, h210_1, h210_2, h210_3, h210_4, h210_5, h210_6⟩ := h210
                  have r225 : 0 ≤ dt211 79 10 ∧ dt211 79 10 ≤ 24 := InvC_get hI212 79 10 rfl rfl
                  refine go_retq PM174 (k := 2) (r := some (.inl (dt211 79 10))) (w1 := (SH, dt211)) rfl ?_
                  exact ⟨dt211, rfl, hI212, hF214, ⟨_, rfl, (by first | exact bnd r225 (by decide) (by decide) | exact ⟨by (first | omega | (have z_ := unhid u4_; omega)), by (first | omega | (have z_ := unhid u4_; omega))⟩), ⟨by first | exact True.intro | with_reducible assumption | exact unhid (by with_reducible assumption) | rfl | (first | omega | (have z_ := unhid u4_; omega)) | trivial, by first | exact True.intro | with_reducible assumption | exact unhid (by with_reducible assumption) | rfl | (first | omega | (have z_ := unhid u4_; omega)) | trivial, by first | assumption | exact hM, by first | rfl | exact congrFun E80208 0 | exact Eq.trans (by assumption) (congrFun E80208 0), by first | rfl | exact congrFun E80208 1 | exact Eq.trans (by assumption) (congrFun E80208 1), by first | rfl | exact congrFun E80208 2 | exact Eq.trans (by assumption) (congrFun E80208 2), by first | rfl | exact congrFun E80208 3 | exact Eq.trans (by assumption) (congrFun E80208 3), by first | rfl | exact congrFun E80208 4 | exact Eq.trans (by assumption) (congrFun E80208 4), by first | rfl | exact congrFun E80208 5 | exact Eq.trans (by assumption) (congrFun E80208 5)⟩⟩⟩
                · exfalso; (first | omega | (have z_ := unhid u3_; omega))
            · skip
              replace c140 := hid c140
              have u5_ := hid (And.intro (unhid c17) (And.intro (unhid i130) (And.intro (unhid i132) (And.intro (unhid i133) (And.intro (unhid hm1) (unhid c140))))))
              have hc226 : l75_3 = 1 := by (first | omega | (have z_ := unhid u5_; omega))
              subst hc226
              have r227 : (-2147483648) ≤ dt126 79 14 ∧ dt126 79 14 ≤ 2147483647 := InvC_get hI127 79 14 rfl rfl
              refine go_ifq PM174 (k := 2) (p1 := 123) (p2 := 86) (L' := [some (.inr (.inr (some 79))), some (.inl p1), some (.inl p2), some (.inl 1)]) (st' := []) (w' := (SH, dt126)) rfl (z_eq (a := dt126 79 14) (by first | exact bnd r227 (by decide) (by decide) | exact ⟨by (first | omega | (have z_ := unhid u5_; omega)), by (first | omega | (have z_ := unhid u5_; omega))⟩)) (fun c228 => ?_) (fun c228 => ?_)
              · skip
                refine go_toq PM174 (k := 2) (pc' := 125) (L' := [some (.inr (.inr (some 79))), some (.inl p1), some (.inl p2), some (.inl 1)]) (st' := [.inl 0, .inr (.inr (some 79))]) (w' := (SH, dt126)) rfl ?_
                have hI229 : InvC (u2 dt126 79 12 0) := InvC_u2 hI127 (lo := 0) (hi := 500) rfl rfl rfl (by decide) (by decide)
                have hF230 : Fr [79, 80, 82, 83, 84] dt (u2 dt126 79 12 0) := Fr_u2 hF128 (by decide)
                have w231 : (u2 dt126 79 12 0) 79 2 = dt126 79 2 := rfl
                have w232 : (u2 dt126 79 12 0) 79 9 = dt126 79 9 := rfl
                have w233 : (u2 dt126 79 12 0) 79 10 = dt126 79 10 := rfl
                have w234 : (u2 dt126 79 12 0) 79 11 = dt126 79 11 := rfl
                have w235 : (u2 dt126 79 12 0) 79 12 = 0 := rfl
                have w236 : (u2 dt126 79 12 0) 79 13 = dt126 79 13 := rfl
                have w237 : (u2 dt126 79 12 0) 79 14 = dt126 79 14 := rfl
                have w238 : (u2 dt126 79 12 0) 79 15 = dt126 79 15 := rfl
                have E84239 : (u2 dt126 79 12 0) 84 = dt126 84 := funext fun _ => rfl
                have E80240 : (u2 dt126 79 12 0) 80 = dt 80 := (funext fun _ => u2_ne (fun z => absurd z.1 (by decide))).trans hE80
                refine go_smpq PM174 (L' := [some (.inr (.inr (some 79))), some (.inl p1), some (.inl p2), some (.inl 1)]) (st' := []) (w' := (SH, (u2 dt126 79 12 0))) rfl rfl (s_pf rfl rfl rfl rfl ⟨by decide, by decide⟩) ?_
                have r241 : (-2147483648) ≤ dt126 79 17 ∧ dt126 79 17 ≤ 2147483647 := InvC_get hI127 79 17 rfl rfl
                refine go_toq PM174 (k := 3) (pc' := 133) (L' := [some (.inr (.inr (some 79))), some (.inl p1), some (.inl p2), some (.inl 1)]) (st' := [.inl (dt126 79 17), .inr (.inr (some 79))]) (w' := (SH, (u2 dt126 79 12 0))) rfl ?_
                have hI242 : InvC (u2 (u2 dt126 79 12 0) 79 19 (dt126 79 17)) := InvC_u2 hI229 (lo := -2147483648) (hi := 2147483647) rfl rfl rfl (by first | exact bnd1 r241 (by decide) | (first | omega | (have z_ := unhid u5_; omega))) (by first | exact bnd2 r241 (by decide) | (first | omega | (have z_ := unhid u5_; omega)))
                have hF243 : Fr [79, 80, 82, 83, 84] dt (u2 (u2 dt126 79 12 0) 79 19 (dt126 79 17)) := Fr_u2 hF230 (by decide)
                have w244 : (u2 (u2 dt126 79 12 0) 79 19 (dt126 79 17)) 79 2 = dt126 79 2 := w231
                have w245 : (u2 (u2 dt126 79 12 0) 79 19 (dt126 79 17)) 79 9 = dt126 79 9 := w232
                have w246 : (u2 (u2 dt126 79 12 0) 79 19 (dt126 79 17)) 79 10 = dt126 79 10 := w233
                have w247 : (u2 (u2 dt126 79 12 0) 79 19 (dt126 79 17)) 79 11 = dt126 79 11 := w234
                have w248 : (u2 (u2 dt126 79 12 0) 79 19 (dt126 79 17)) 79 12 = 0 := w235
                have w249 : (u2 (u2 dt126 79 12 0) 79 19 (dt126 79 17)) 79 13 = dt126 79 13 := w236
                have w250 : (u2 (u2 dt126 79 12 0) 79 19 (dt126 79 17)) 79 14 = dt126 79 14 := w237
                have w251 : (u2 (u2 dt126 79 12 0) 79 19 (dt126 79 17)) 79 15 = dt126 79 15 := w238
                clear w231 w232 w233 w234 w235 w236 w237 w238
                have E84252 : (u2 (u2 dt126 79 12 0) 79 19 (dt126 79 17)) 84 = dt126 84 := (funext fun _ => rfl).trans E84239
                have E80253 : (u2 (u2 dt126 79 12 0) 79 19 (dt126 79 17)) 80 = dt 80 := (funext fun _ => u2_ne (fun z => absurd z.1 (by decide))).trans E80240
                refine go_smpq PM174 (L' := [some (.inr (.inr (some 79))), some (.inl p1), some (.inl p2), some (.inl 1)]) (st' := []) (w' := (SH, (u2 (u2 dt126 79 12 0) 79 19 (dt126 79 17)))) rfl rfl (s_pf rfl rfl rfl rfl (by first | exact bnd r241 (by decide) (by decide) | exact ⟨by (first | omega | (have z_ := unhid u5_; omega)), by (first | omega | (have z_ := unhid u5_; omega))⟩)) ?_
                refine go_toq PM174 (k := 5) (pc' := 149) (L' := [some (.inr (.inr (some 79))), some (.inl p1), some (.inl p2), some (.inl 1)]) (st' := [.inl (-1), .inr (.inr (some 79))]) (w' := (SH, (u2 (u2 dt126 79 12 0) 79 19 (dt126 79 17)))) rfl ?_
                have hI254 : InvC (u2 (u2 (u2 dt126 79 12 0) 79 19 (dt126 79 17)) 79 21 (-1)) := InvC_u2 hI242 (lo := -2147483648) (hi := 2147483647) rfl rfl rfl (by decide) (by decide)
                have hF255 : Fr [79, 80, 82, 83, 84] dt (u2 (u2 (u2 dt126 79 12 0) 79 19 (dt126 79 17)) 79 21 (-1)) := Fr_u2 hF243 (by decide)
                have w256 : (u2 (u2 (u2 dt126 79 12 0) 79 19 (dt126 79 17)) 79 21 (-1)) 79 2 = dt126 79 2 := w244
                have w257 : (u2 (u2 (u2 dt126 79 12 0) 79 19 (dt126 79 17)) 79 21 (-1)) 79 9 = dt126 79 9 := w245
                have w258 : (u2 (u2 (u2 dt126 79 12 0) 79 19 (dt126 79 17)) 79 21 (-1)) 79 10 = dt126 79 10 := w246
                have w259 : (u2 (u2 (u2 dt126 79 12 0) 79 19 (dt126 79 17)) 79 21 (-1)) 79 11 = dt126 79 11 := w247
                have w260 : (u2 (u2 (u2 dt126 79 12 0) 79 19 (dt126 79 17)) 79 21 (-1)) 79 12 = 0 := w248
                have w261 : (u2 (u2 (u2 dt126 79 12 0) 79 19 (dt126 79 17)) 79 21 (-1)) 79 13 = dt126 79 13 := w249
                have w262 : (u2 (u2 (u2 dt126 79 12 0) 79 19 (dt126 79 17)) 79 21 (-1)) 79 14 = dt126 79 14 := w250
                have w263 : (u2 (u2 (u2 dt126 79 12 0) 79 19 (dt126 79 17)) 79 21 (-1)) 79 15 = dt126 79 15 := w251
                clear w244 w245 w246 w247 w248 w249 w250 w251
                have E84264 : (u2 (u2 (u2 dt126 79 12 0) 79 19 (dt126 79 17)) 79 21 (-1)) 84 = dt126 84 := (funext fun _ => rfl).trans E84252
                have E80265 : (u2 (u2 (u2 dt126 79 12 0) 79 19 (dt126 79 17)) 79 21 (-1)) 80 = dt 80 := (funext fun _ => u2_ne (fun z => absurd z.1 (by decide))).trans E80253
                refine go_smpq PM174 (L' := [some (.inr (.inr (some 79))), some (.inl p1), some (.inl p2), some (.inl 1)]) (st' := []) (w' := (SH, (u2 (u2 (u2 dt126 79 12 0) 79 19 (dt126 79 17)) 79 21 (-1)))) rfl rfl (s_pf rfl rfl rfl rfl ⟨by decide, by decide⟩) ?_
                refine go_toq PM174 (k := 4) (pc' := 160) (L' := [some (.inr (.inr (some 79))), some (.inl p1), some (.inl p2), some (.inl 1)]) (st' := [.inl p2, .inr (.inr (some 79))]) (w' := (SH, (u2 (u2 (u2 dt126 79 12 0) 79 19 (dt126 79 17)) 79 21 (-1)))) rfl ?_
                refine go_callq PM174 PM175 (Q' := _) rfl rfl rfl rfl (sp_X6_keeps_k1 L xs sio (d + 37) (u2 (u2 (u2 dt126 79 12 0) 79 19 (dt126 79 17)) 79 21 (-1)) hI254 hM_dt126  p2 (by first | exact h_p2 | exact bnd h_p2 (by decide) (by decide) | exact ⟨by (first | omega | (have z_ := unhid u5_; omega)), by (first | omega | (have z_ := unhid u5_; omega))⟩) (by first | exact True.intro | with_reducible assumption | exact unhid (by with_reducible assumption) | rfl | (first | omega | (have z_ := unhid u5_; omega)) | trivial | exact hI4 (by (first | omega | (have z_ := unhid u5_; omega))) (by (first | omega | (have z_ := unhid u5_; omega))) | exact hI5 (by (first | omega | (have z_ := unhid u5_; omega))) (by (first | omega | (have z_ := unhid u5_; omega)))) (by first | exact True.intro | with_reducible assumption | exact unhid (by with_reducible assumption) | rfl | (first | omega | (have z_ := unhid u5_; omega)) | trivial | exact hI4 (by (first | omega | (have z_ := unhid u5_; omega))) (by (first | omega | (have z_ := unhid u5_; omega))) | exact hI5 (by (first | omega | (have z_ := unhid u5_; omega))) (by (first | omega | (have z_ := unhid u5_; omega)))) (by first | exact True.intro | with_reducible assumption | exact unhid (by with_reducible assumption) | rfl | (first | omega | (have z_ := unhid u5_; omega)) | trivial | exact hI4 (by (first | omega | (have z_ := unhid u5_; omega))) (by (first | omega | (have z_ := unhid u5_; omega))) | exact hI5 (by (first | omega | (have z_ := unhid u5_; omega))) (by (first | omega | (have z_ := unhid u5_; omega)))) (by first | exact True.intro | with_reducible assumption | exact unhid (by with_reducible assumption) | rfl | (first | omega | (have z_ := unhid u5_; omega)) | trivial | exact hI4 (by (first | omega | (have z_ := unhid u5_; omega))) (by (first | omega | (have z_ := unhid u5_; omega))) | exact hI5 (by (first | omega | (have z_ := unhid u5_; omega))) (by (first | omega | (have z_ := unhid u5_; omega))))) ?_
                rintro _ _ ⟨dt267, rfl, hI268, hF269, h266⟩
                refine ⟨rfl, ?_⟩
                have hF270 : Fr [79, 80, 82, 83, 84] dt dt267 := Fr_tr hF255 hF269 (by decide)
                have w271 : dt267 79 2 = dt126 79 2 := (hF269 79 (by decide) 2).trans w256
                have w272 : dt267 79 9 = dt126 79 9 := (hF269 79 (by decide) 9).trans w257
                have w273 : dt267 79 10 = dt126 79 10 := (hF269 79 (by decide) 10).trans w258
                have w274 : dt267 79 11 = dt126 79 11 := (hF269 79 (by decide) 11).trans w259
                have w275 : dt267 79 12 = 0 := (hF269 79 (by decide) 12).trans w260
                have w276 : dt267 79 13 = dt126 79 13 := (hF269 79 (by decide) 13).trans w261
                have w277 : dt267 79 14 = dt126 79 14 := (hF269 79 (by decide) 14).trans w262
                have w278 : dt267 79 15 = dt126 79 15 := (hF269 79 (by decide) 15).trans w263
                clear w256 w257 w258 w259 w260 w261 w262 w263
                have E84279 : dt267 84 = dt126 84 := (funext (hF269 84 (by decide))).trans E84264
                rcases h266 with ⟨rfl, h266⟩
                have hM280 : MW (dt267 80) := h266.1
                obtain ⟨h266_0, h266_1, h266_2, h266_3, h266_4, h266_5, h266_6⟩ := h266
                have r281 : 0 ≤ dt267 79 10 ∧ dt267 79 10 ≤ 24 := InvC_get hI268 79 10 rfl rfl
                refine go_retq PM174 (k := 2) (r := some (.inl (dt267 79 10))) (w1 := (SH, dt267)) rfl ?_
                exact ⟨dt267, rfl, hI268, hF270, ⟨_, rfl, (by first | exact bnd r281 (by decide) (by decide) | exact ⟨by (first | omega | (have z_ := unhid u5_; omega)), by (first | omega | (have z_ := unhid u5_; omega))⟩), ⟨by first | exact True.intro | with_reducible assumption | exact unhid (by with_reducible assumption) | rfl | (first | omega | (have z_ := unhid u5_; omega)) | trivial, by first | exact True.intro | with_reducible assumption | exact unhid (by with_reducible assumption) | rfl | (first | omega | (have z_ := unhid u5_; omega)) | trivial, by first | assumption | exact hM, by first | rfl | exact congrFun E80265 0 | exact Eq.trans (by assumption) (congrFun E80265 0), by first | rfl | exact congrFun E80265 1 | exact Eq.trans (by assumption) (congrFun E80265 1), by first | rfl | exact congrFun E80265 2 | exact Eq.trans (by assumption) (congrFun E80265 2), by first | rfl | exact congrFun E80265 3 | exact Eq.trans (by assumption) (congrFun E80265 3), by first | rfl | exact congrFun E80265 4 | exact Eq.trans (by assumption) (congrFun E80265 4), by first | rfl | exact congrFun E80265 5 | exact Eq.trans (by assumption) (congrFun E80265 5)⟩⟩⟩
              · skip
                replace c228 := hid c228
                have u6_ := hid (And.intro (unhid c17) (And.intro (unhid i130) (And.intro (unhid i132) (And.intro (unhid i133) (And.intro (unhid hm1) (And.intro (unhid c140) (unhid c228)))))))
                refine go_ifq PM174 (k := 1) (p1 := 97) (p2 := 90) (L' := [some (.inr (.inr (some 79))), some (.inl p1), some (.inl p2), some (.inl 1)]) (st' := []) (w' := (SH, dt126)) rfl (z_ne (a := p1) (by first | exact bnd h_p1 (by decide) (by decide) | exact ⟨by (first | omega | (have z_ := unhid u6_; omega)), by (first | omega | (have z_ := unhid u6_; omega))⟩)) (fun c282 => ?_) (fun c282 => ?_)
                · skip
                  replace c282 := hid c282
                  refine go_toq PM174 (k := 1) (pc' := 98) (L' := [some (.inr (.inr (some 79))), some (.inl p1), some (.inl p2), some (.inl 1)]) (st' := [.inr (.inr (some 79))]) (w' := (SH, dt126)) rfl ?_
                  have u7_ := hid (And.intro (unhid c17) (And.intro (unhid i130) (And.intro (unhid i132) (And.intro (unhid i133) (And.intro (unhid hm1) (And.intro (unhid c140) (And.intro (unhid c228) (unhid c282))))))))
                  have v8_ := hid (And.intro (unhid i130) (And.intro (unhid i132) (And.intro (unhid i133) (unhid hm1))))
                  refine go_callq PM174 PM173 (Q' := _) rfl rfl rfl rfl (sp_X6_aLine L xs sio (d + 0) dt126 hI127   (by first | exact True.intro | with_reducible assumption | exact unhid (by with_reducible assumption) | rfl | (first | omega | (have z_ := unhid v8_; omega) | (have z_ := unhid u7_; omega)) | trivial | exact hI4 (by (first | omega | (have z_ := unhid v8_; omega) | (have z_ := unhid u7_; omega))) (by (first | omega | (have z_ := unhid v8_; omega) | (have z_ := unhid u7_; omega))) | exact hI5 (by (first | omega | (have z_ := unhid v8_; omega) | (have z_ := unhid u7_; omega))) (by (first | omega | (have z_ := unhid v8_; omega) | (have z_ := unhid u7_; omega)))) (by first | exact True.intro | with_reducible assumption | exact unhid (by with_reducible assumption) | rfl | (first | omega | (have z_ := unhid v8_; omega) | (have z_ := unhid u7_; omega)) | trivial | exact hI4 (by (first | omega | (have z_ := unhid v8_; omega) | (have z_ := unhid u7_; omega))) (by (first | omega | (have z_ := unhid v8_; omega) | (have z_ := unhid u7_; omega))) | exact hI5 (by (first | omega | (have z_ := unhid v8_; omega) | (have z_ := unhid u7_; omega))) (by (first | omega | (have z_ := unhid v8_; omega) | (have z_ := unhid u7_; omega)))) (by first | exact True.intro | with_reducible assumption | exact unhid (by with_reducible assumption) | rfl | (first | omega | (have z_ := unhid v8_; omega) | (have z_ := unhid u7_; omega)) | trivial | exact hI4 (by (first | omega | (have z_ := unhid v8_; omega) | (have z_ := unhid u7_; omega))) (by (first | omega | (have z_ := unhid v8_; omega) | (have z_ := unhid u7_; omega))) | exact hI5 (by (first | omega | (have z_ := unhid v8_; omega) | (have z_ := unhid u7_; omega))) (by (first | omega | (have z_ := unhid v8_; omega) | (have z_ := unhid u7_; omega))))) ?_
                  rintro _ _ ⟨dt284, rfl, hI285, hF286, h283⟩
                  refine ⟨rfl, ?_⟩
                  have hF287 : Fr [79, 80, 82, 83, 84] dt dt284 := Fr_tr hF128 hF286 (by decide)
                  have hM288 : MW (dt284 80) := MW_fr hM_dt126 hF286 (by decide)
                  have E80289 : dt284 80 = dt 80 := (funext (hF286 80 (by decide))).trans hE80
                  rcases h283 with ⟨rfl, h283⟩ | ⟨rfl, h283⟩
                  · skip
                    obtain ⟨h283_0, h283_1, h283_2⟩ := h283
                    have w290 : dt284 79 2 = dt126 79 2 := h283_0
                    have w291 : dt284 79 9 = dt126 79 9 := h283_1
                    have w292 : dt284 79 12 = dt126 79 12 := h283_2
                    clear h283_0 h283_1 h283_2
                    have r293 : 0 ≤ dt284 79 10 ∧ dt284 79 10 ≤ 24 := InvC_get hI285 79 10 rfl rfl
                    refine go_toq PM174 (k := 8) (pc' := 117) (L' := [some (.inr (.inr (some 79))), some (.inl p1), some (.inl p2), some (.inl 0)]) (st' := [.inl ((dt284 79 10) + 0), .inr (.inr (some 79))]) (w' := (SH, dt284)) rfl ?_
                    have hI294 : InvC (u2 dt284 79 10 ((dt284 79 10) + 0)) := InvC_u2 hI285 (lo := 0) (hi := 24) rfl rfl rfl (by (first | omega | (have z_ := unhid v8_; omega) | (have z_ := unhid u7_; omega))) (by (first | omega | (have z_ := unhid v8_; omega) | (have z_ := unhid u7_; omega)))
                    have hF295 : Fr [79, 80, 82, 83, 84] dt (u2 dt284 79 10 ((dt284 79 10) + 0)) := Fr_u2 hF287 (by decide)
                    have w296 : (u2 dt284 79 10 ((dt284 79 10) + 0)) 79 2 = dt126 79 2 := w290
                    have w297 : (u2 dt284 79 10 ((dt284 79 10) + 0)) 79 9 = dt126 79 9 := w291
                    have w298 : (u2 dt284 79 10 ((dt284 79 10) + 0)) 79 10 = (dt284 79 10) + 0 := rfl
                    have w299 : (u2 dt284 79 10 ((dt284 79 10) + 0)) 79 11 = dt284 79 11 := rfl
                    have w300 : (u2 dt284 79 10 ((dt284 79 10) + 0)) 79 12 = dt126 79 12 := w292
                    have w301 : (u2 dt284 79 10 ((dt284 79 10) + 0)) 79 13 = dt284 79 13 := rfl
                    have w302 : (u2 dt284 79 10 ((dt284 79 10) + 0)) 79 14 = dt284 79 14 := rfl
                    have w303 : (u2 dt284 79 10 ((dt284 79 10) + 0)) 79 15 = dt284 79 15 := rfl
                    have E84304 : (u2 dt284 79 10 ((dt284 79 10) + 0)) 84 = dt284 84 := funext fun _ => rfl
                    have E80305 : (u2 dt284 79 10 ((dt284 79 10) + 0)) 80 = dt 80 := (funext fun _ => u2_ne (fun z => absurd z.1 (by decide))).trans E80289
                    refine go_smpq PM174 (L' := [some (.inr (.inr (some 79))), some (.inl p1), some (.inl p2), some (.inl 0)]) (st' := []) (w' := (SH, (u2 dt284 79 10 ((dt284 79 10) + 0)))) rfl rfl (s_pf rfl rfl rfl rfl (by first | exact bndp r293 (by decide) (by decide) | exact ⟨by (first | omega | (have z_ := unhid v8_; omega) | (have z_ := unhid u7_; omega)), by (first | omega | (have z_ := unhid v8_; omega) | (have z_ := unhid u7_; omega))⟩)) ?_
                    refine go_toq PM174 (k := 1) (pc' := 75) (L' := [some (.inr (.inr (some 79))), some (.inl p1), some (.inl p2), some (.inl 0)]) (st' := []) (w' := (SH, (u2 dt284 79 10 ((dt284 79 10) + 0)))) rfl ?_
                    exact GO.le (ih_loop139 0 (u2 dt284 79 10 ((dt284 79 10) + 0)) hI294 hF295 hM288 ⟨by decide, by decide⟩ (by (first | omega | (have z_ := unhid v8_; omega) | (have z_ := unhid u7_; omega))) (by first | with_reducible assumption | exact unhid (by with_reducible assumption) | (first | omega | (have z_ := unhid v8_; omega) | (have z_ := unhid u7_; omega)) | exact (InvC_get (by assumption) 79 15 rfl rfl).2) (by (first | omega | (have z_ := unhid v8_; omega) | (have z_ := unhid u7_; omega))) (by (first | omega | (have z_ := unhid v8_; omega) | (have z_ := unhid u7_; omega))) (by intro _ hz; first | (first | omega | (have z_ := unhid v8_; omega) | (have z_ := unhid u7_; omega)) | exact ARW_0 (by (first | omega | (have z_ := unhid v8_; omega) | (have z_ := unhid u7_; omega))) | exact ARW_s (hI4 (by (first | omega | (have z_ := unhid v8_; omega) | (have z_ := unhid u7_; omega))) hz) (by (first | omega | (have z_ := unhid v8_; omega) | (have z_ := unhid u7_; omega))) (by assumption) (by assumption) (by (first | omega | (have z_ := unhid v8_; omega) | (have z_ := unhid u7_; omega)))) (by intro _ hz; first | (first | omega | (have z_ := unhid v8_; omega) | (have z_ := unhid u7_; omega)) | exact LRW_0 (by (first | omega | (have z_ := unhid v8_; omega) | (have z_ := unhid u7_; omega))) | exact LRW_s (hI5 (by (first | omega | (have z_ := unhid v8_; omega) | (have z_ := unhid u7_; omega))) hz) (by (first | omega | (have z_ := unhid v8_; omega) | (have z_ := unhid u7_; omega))) (by assumption) (by assumption) (by assumption) (by (first | omega | (have z_ := unhid v8_; omega) | (have z_ := unhid u7_; omega))) (by (first | omega | (have z_ := unhid v8_; omega) | (have z_ := unhid u7_; omega)))) (by (first | omega | (have z_ := unhid v8_; omega) | (have z_ := unhid u7_; omega))) (by (first | omega | (have z_ := unhid v8_; omega) | (have z_ := unhid u7_; omega))) (by exact E80305) (by (first | omega | (have z_ := unhid v8_; omega) | (have z_ := unhid u7_; omega)))) ⟨.inl rfl, .inl rfl, .inl rfl, .inl rfl, trivial⟩
                  · skip
                    obtain ⟨h283_0, h283_1, h283_2, h283_3, h283_4, h283_5, h283_6, h283_7, h283_8, h283_9, h283_10, h283_11, h283_12⟩ := h283
                    have w306 : dt284 79 2 = dt126 79 2 := h283_9
                    have w307 : dt284 79 9 = dt126 79 9 := h283_10
                    have w308 : dt284 79 10 = dt126 79 10 := h283_11
                    have w309 : dt284 79 12 = dt126 79 12 := h283_12
                    clear h283_9 h283_10 h283_11 h283_12
                    have r310 : 0 ≤ dt284 79 10 ∧ dt284 79 10 ≤ 24 := InvC_get hI285 79 10 rfl rfl
                    refine go_toq PM174 (k := 9) (pc' := 117) (L' := [some (.inr (.inr (some 79))), some (.inl p1), some (.inl p2), some (.inl 1)]) (st' := [.inl ((dt284 79 10) + 1), .inr (.inr (some 79))]) (w' := (SH, dt284)) rfl ?_
                    have hI311 : InvC (u2 dt284 79 10 ((dt284 79 10) + 1)) := InvC_u2 hI285 (lo := 0) (hi := 24) rfl rfl rfl (by (first | omega | (have z_ := unhid v8_; omega) | (have z_ := unhid u7_; omega))) (by (first | omega | (have z_ := unhid v8_; omega) | (have z_ := unhid u7_; omega)))
                    have hF312 : Fr [79, 80, 82, 83, 84] dt (u2 dt284 79 10 ((dt284 79 10) + 1)) := Fr_u2 hF287 (by decide)
                    have w313 : (u2 dt284 79 10 ((dt284 79 10) + 1)) 79 2 = dt126 79 2 := w306
                    have w314 : (u2 dt284 79 10 ((dt284 79 10) + 1)) 79 9 = dt126 79 9 := w307
                    have w315 : (u2 dt284 79 10 ((dt284 79 10) + 1)) 79 10 = (dt284 79 10) + 1 := rfl
                    have w316 : (u2 dt284 79 10 ((dt284 79 10) + 1)) 79 11 = dt284 79 11 := rfl
                    have w317 : (u2 dt284 79 10 ((dt284 79 10) + 1)) 79 12 = dt126 79 12 := w309
                    have w318 : (u2 dt284 79 10 ((dt284 79 10) + 1)) 79 13 = dt284 79 13 := rfl
                    have w319 : (u2 dt284 79 10 ((dt284 79 10) + 1)) 79 14 = dt284 79 14 := rfl
                    have w320 : (u2 dt284 79 10 ((dt284 79 10) + 1)) 79 15 = dt284 79 15 := rfl
                    have E84321 : (u2 dt284 79 10 ((dt284 79 10) + 1)) 84 = dt284 84 := funext fun _ => rfl
                    have E80322 : (u2 dt284 79 10 ((dt284 79 10) + 1)) 80 = dt 80 := (funext fun _ => u2_ne (fun z => absurd z.1 (by decide))).trans E80289
                    refine go_smpq PM174 (L' := [some (.inr (.inr (some 79))), some (.inl p1), some (.inl p2), some (.inl 1)]) (st' := []) (w' := (SH, (u2 dt284 79 10 ((dt284 79 10) + 1)))) rfl rfl (s_pf rfl rfl rfl rfl (by first | exact bndp r310 (by decide) (by decide) | exact ⟨by (first | omega | (have z_ := unhid v8_; omega) | (have z_ := unhid u7_; omega)), by (first | omega | (have z_ := unhid v8_; omega) | (have z_ := unhid u7_; omega))⟩)) ?_
                    refine go_toq PM174 (k := 1) (pc' := 75) (L' := [some (.inr (.inr (some 79))), some (.inl p1), some (.inl p2), some (.inl 1)]) (st' := []) (w' := (SH, (u2 dt284 79 10 ((dt284 79 10) + 1)))) rfl ?_
                    exact GO.le (ih_loop139 1 (u2 dt284 79 10 ((dt284 79 10) + 1)) hI311 hF312 hM288 ⟨by decide, by decide⟩ (by (first | omega | (have z_ := unhid v8_; omega) | (have z_ := unhid u7_; omega))) (by first | with_reducible assumption | exact unhid (by with_reducible assumption) | (first | omega | (have z_ := unhid v8_; omega) | (have z_ := unhid u7_; omega)) | exact (InvC_get (by assumption) 79 15 rfl rfl).2) (by (first | omega | (have z_ := unhid v8_; omega) | (have z_ := unhid u7_; omega))) (by (first | omega | (have z_ := unhid v8_; omega) | (have z_ := unhid u7_; omega))) (by intro _ hz; first | (first | omega | (have z_ := unhid v8_; omega) | (have z_ := unhid u7_; omega)) | exact ARW_0 (by (first | omega | (have z_ := unhid v8_; omega) | (have z_ := unhid u7_; omega))) | exact ARW_s (hI4 (by (first | omega | (have z_ := unhid v8_; omega) | (have z_ := unhid u7_; omega))) hz) (by (first | omega | (have z_ := unhid v8_; omega) | (have z_ := unhid u7_; omega))) (by assumption) (by assumption) (by (first | omega | (have z_ := unhid v8_; omega) | (have z_ := unhid u7_; omega)))) (by intro _ hz; first | (first | omega | (have z_ := unhid v8_; omega) | (have z_ := unhid u7_; omega)) | exact LRW_0 (by (first | omega | (have z_ := unhid v8_; omega) | (have z_ := unhid u7_; omega))) | exact LRW_s (hI5 (by (first | omega | (have z_ := unhid v8_; omega) | (have z_ := unhid u7_; omega))) hz) (by (first | omega | (have z_ := unhid v8_; omega) | (have z_ := unhid u7_; omega))) (by assumption) (by assumption) (by assumption) (by (first | omega | (have z_ := unhid v8_; omega) | (have z_ := unhid u7_; omega))) (by (first | omega | (have z_ := unhid v8_; omega) | (have z_ := unhid u7_; omega)))) (by (first | omega | (have z_ := unhid v8_; omega) | (have z_ := unhid u7_; omega))) (by (first | omega | (have z_ := unhid v8_; omega) | (have z_ := unhid u7_; omega))) (by exact E80322) (by (first | omega | (have z_ := unhid v8_; omega) | (have z_ := unhid u7_; omega)))) ⟨.inl rfl, .inl rfl, .inl rfl, .inl rfl, trivial⟩
                · exfalso; (first | omega | (have z_ := unhid u6_; omega))
        exact GO.le (loop139 _ 1 dt68 hI69 hF71 hM72 ⟨by decide, by decide⟩ (by (first | omega | (have z0_ := unhid c17; omega))) (by first | with_reducible assumption | exact unhid (by with_reducible assumption) | (first | omega | (have z0_ := unhid c17; omega)) | exact (InvC_get (by assumption) 79 15 rfl rfl).2) (by (first | omega | (have z0_ := unhid c17; omega))) (by (first | omega | (have z0_ := unhid c17; omega))) (by intro _ hz; first | (first | omega | (have z0_ := unhid c17; omega)) | exact ARW_0 (by (first | omega | (have z0_ := unhid c17; omega))) | exact ARW_s (hI4 (by (first | omega | (have z0_ := unhid c17; omega))) hz) (by (first | omega | (have z0_ := unhid c17; omega))) (by assumption) (by assumption) (by (first | omega | (have z0_ := unhid c17; omega)))) (by intro _ hz; first | (first | omega | (have z0_ := unhid c17; omega)) | exact LRW_0 (by (first | omega | (have z0_ := unhid c17; omega))) | exact LRW_s (hI5 (by (first | omega | (have z0_ := unhid c17; omega))) hz) (by (first | omega | (have z0_ := unhid c17; omega))) (by assumption) (by assumption) (by assumption) (by (first | omega | (have z0_ := unhid c17; omega))) (by (first | omega | (have z0_ := unhid c17; omega)))) (by (first | omega | (have z0_ := unhid c17; omega))) (by (first | omega | (have z0_ := unhid c17; omega))) (by exact E8073) (Nat.lt_succ_self _)) ⟨.inl rfl, .inl rfl, .inl rfl, .inl rfl, trivial⟩
      · skip
        refine go_toq PM174 (k := 3) (pc' := 34) (L' := [some (.inr (.inr (some 79))), some (.inl p1), some (.inl p2), none]) (st' := [.inl 0, .inr (.inr (some 79))]) (w' := (SH, (u2 dt 79 17 0))) rfl ?_
        have hI323 : InvC (u2 (u2 dt 79 17 0) 79 12 0) := InvC_u2 hI4 (lo := 0) (hi := 500) rfl rfl rfl (by decide) (by decide)
        have hF324 : Fr [79, 80, 82, 83, 84] dt (u2 (u2 dt 79 17 0) 79 12 0) := Fr_u2 hF5 (by decide)
        have w325 : (u2 (u2 dt 79 17 0) 79 12 0) 79 2 = dt 79 2 := w6
        have w326 : (u2 (u2 dt 79 17 0) 79 12 0) 79 9 = dt 79 9 := w7
        have w327 : (u2 (u2 dt 79 17 0) 79 12 0) 79 10 = dt 79 10 := w8
        have w328 : (u2 (u2 dt 79 17 0) 79 12 0) 79 11 = dt 79 11 := w9
        have w329 : (u2 (u2 dt 79 17 0) 79 12 0) 79 12 = 0 := rfl
        have w330 : (u2 (u2 dt 79 17 0) 79 12 0) 79 13 = dt 79 13 := w11
        have w331 : (u2 (u2 dt 79 17 0) 79 12 0) 79 14 = dt 79 14 := w12
        have w332 : (u2 (u2 dt 79 17 0) 79 12 0) 79 15 = dt 79 15 := w13
        clear w6 w7 w8 w9 w10 w11 w12 w13
        have E84333 : (u2 (u2 dt 79 17 0) 79 12 0) 84 = dt 84 := (funext fun _ => rfl).trans E8414
        have E80334 : (u2 (u2 dt 79 17 0) 79 12 0) 80 = dt 80 := (funext fun _ => u2_ne (fun z => absurd z.1 (by decide))).trans E8015
        refine go_smpq PM174 (L' := [some (.inr (.inr (some 79))), some (.inl p1), some (.inl p2), none]) (st' := []) (w' := (SH, (u2 (u2 dt 79 17 0) 79 12 0))) rfl rfl (s_pf rfl rfl rfl rfl ⟨by decide, by decide⟩) ?_
        refine go_toq PM174 (k := 2) (pc' := 39) (L' := [some (.inr (.inr (some 79))), some (.inl p1), some (.inl p2), none]) (st' := [.inl 0, .inr (.inr (some 79))]) (w' := (SH, (u2 (u2 dt 79 17 0) 79 12 0))) rfl ?_
        have hI335 : InvC (u2 (u2 (u2 dt 79 17 0) 79 12 0) 79 19 0) := InvC_u2 hI323 (lo := -2147483648) (hi := 2147483647) rfl rfl rfl (by decide) (by decide)
        have hF336 : Fr [79, 80, 82, 83, 84] dt (u2 (u2 (u2 dt 79 17 0) 79 12 0) 79 19 0) := Fr_u2 hF324 (by decide)
        have w337 : (u2 (u2 (u2 dt 79 17 0) 79 12 0) 79 19 0) 79 2 = dt 79 2 := w325
        have w338 : (u2 (u2 (u2 dt 79 17 0) 79 12 0) 79 19 0) 79 9 = dt 79 9 := w326
        have w339 : (u2 (u2 (u2 dt 79 17 0) 79 12 0) 79 19 0) 79 10 = dt 79 10 := w327
        have w340 : (u2 (u2 (u2 dt 79 17 0) 79 12 0) 79 19 0) 79 11 = dt 79 11 := w328
        have w341 : (u2 (u2 (u2 dt 79 17 0) 79 12 0) 79 19 0) 79 12 = 0 := w329
        have w342 : (u2 (u2 (u2 dt 79 17 0) 79 12 0) 79 19 0) 79 13 = dt 79 13 := w330
        have w343 : (u2 (u2 (u2 dt 79 17 0) 79 12 0) 79 19 0) 79 14 = dt 79 14 := w331
        have w344 : (u2 (u2 (u2 dt 79 17 0) 79 12 0) 79 19 0) 79 15 = dt 79 15 := w332
        clear w325 w326 w327 w328 w329 w330 w331 w332
        have E84345 : (u2 (u2 (u2 dt 79 17 0) 79 12 0) 79 19 0) 84 = dt 84 := (funext fun _ => rfl).trans E84333
        have E80346 : (u2 (u2 (u2 dt 79 17 0) 79 12 0) 79 19 0) 80 = dt 80 := (funext fun _ => u2_ne (fun z => absurd z.1 (by decide))).trans E80334
        refine go_smpq PM174 (L' := [some (.inr (.inr (some 79))), some (.inl p1), some (.inl p2), none]) (st' := []) (w' := (SH, (u2 (u2 (u2 dt 79 17 0) 79 12 0) 79 19 0))) rfl rfl (s_pf rfl rfl rfl rfl ⟨by decide, by decide⟩) ?_
        refine go_toq PM174 (k := 2) (pc' := 44) (L' := [some (.inr (.inr (some 79))), some (.inl p1), some (.inl p2), none]) (st' := [.inl (-1), .inr (.inr (some 79))]) (w' := (SH, (u2 (u2 (u2 dt 79 17 0) 79 12 0) 79 19 0))) rfl ?_
        have hI347 : InvC (u2 (u2 (u2 (u2 dt 79 17 0) 79 12 0) 79 19 0) 79 21 (-1)) := InvC_u2 hI335 (lo := -2147483648) (hi := 2147483647) rfl rfl rfl (by decide) (by decide)
        have hF348 : Fr [79, 80, 82, 83, 84] dt (u2 (u2 (u2 (u2 dt 79 17 0) 79 12 0) 79 19 0) 79 21 (-1)) := Fr_u2 hF336 (by decide)
        have w349 : (u2 (u2 (u2 (u2 dt 79 17 0) 79 12 0) 79 19 0) 79 21 (-1)) 79 2 = dt 79 2 := w337
        have w350 : (u2 (u2 (u2 (u2 dt 79 17 0) 79 12 0) 79 19 0) 79 21 (-1)) 79 9 = dt 79 9 := w338
        have w351 : (u2 (u2 (u2 (u2 dt 79 17 0) 79 12 0) 79 19 0) 79 21 (-1)) 79 10 = dt 79 10 := w339
        have w352 : (u2 (u2 (u2 (u2 dt 79 17 0) 79 12 0) 79 19 0) 79 21 (-1)) 79 11 = dt 79 11 := w340
        have w353 : (u2 (u2 (u2 (u2 dt 79 17 0) 79 12 0) 79 19 0) 79 21 (-1)) 79 12 = 0 := w341
        have w354 : (u2 (u2 (u2 (u2 dt 79 17 0) 79 12 0) 79 19 0) 79 21 (-1)) 79 13 = dt 79 13 := w342
        have w355 : (u2 (u2 (u2 (u2 dt 79 17 0) 79 12 0) 79 19 0) 79 21 (-1)) 79 14 = dt 79 14 := w343
        have w356 : (u2 (u2 (u2 (u2 dt 79 17 0) 79 12 0) 79 19 0) 79 21 (-1)) 79 15 = dt 79 15 := w344
        clear w337 w338 w339 w340 w341 w342 w343 w344
        have E84357 : (u2 (u2 (u2 (u2 dt 79 17 0) 79 12 0) 79 19 0) 79 21 (-1)) 84 = dt 84 := (funext fun _ => rfl).trans E84345
        have E80358 : (u2 (u2 (u2 (u2 dt 79 17 0) 79 12 0) 79 19 0) 79 21 (-1)) 80 = dt 80 := (funext fun _ => u2_ne (fun z => absurd z.1 (by decide))).trans E80346
        refine go_smpq PM174 (L' := [some (.inr (.inr (some 79))), some (.inl p1), some (.inl p2), none]) (st' := []) (w' := (SH, (u2 (u2 (u2 (u2 dt 79 17 0) 79 12 0) 79 19 0) 79 21 (-1)))) rfl rfl (s_pf rfl rfl rfl rfl ⟨by decide, by decide⟩) ?_
        refine go_retq PM174 (k := 1) (r := some (.inl (-1))) (w1 := (SH, (u2 (u2 (u2 (u2 dt 79 17 0) 79 12 0) 79 19 0) 79 21 (-1)))) rfl ?_
        exact ⟨(u2 (u2 (u2 (u2 dt 79 17 0) 79 12 0) 79 19 0) 79 21 (-1)), rfl, hI347, hF348, ⟨_, rfl, ⟨by decide, by decide⟩, ⟨by first | exact True.intro | with_reducible assumption | exact unhid (by with_reducible assumption) | rfl | (first | omega | (have z0_ := unhid c17; omega)) | trivial, by first | exact True.intro | with_reducible assumption | exact unhid (by with_reducible assumption) | rfl | (first | omega | (have z0_ := unhid c17; omega)) | trivial, by first | assumption | exact hM, by first | rfl | exact congrFun E80358 0 | exact Eq.trans (by assumption) (congrFun E80358 0), by first | rfl | exact congrFun E80358 1 | exact Eq.trans (by assumption) (congrFun E80358 1), by first | rfl | exact congrFun E80358 2 | exact Eq.trans (by assumption) (congrFun E80358 2), by first | rfl | exact congrFun E80358 3 | exact Eq.trans (by assumption) (congrFun E80358 3), by first | rfl | exact congrFun E80358 4 | exact Eq.trans (by assumption) (congrFun E80358 4), by first | rfl | exact congrFun E80358 5 | exact Eq.trans (by assumption) (congrFun E80358 5)⟩⟩⟩
    · skip
      refine go_toq PM174 (k := 2) (pc' := 26) (L' := [some (.inr (.inr (some 79))), some (.inl p1), some (.inl p2), none]) (st' := [.inl 7, .inl 0, .inl p2]) (w' := (SH, (u2 dt 79 17 0))) rfl ?_
      refine go_callq PM174 PM146 (Q' := _) rfl rfl rfl rfl (sp_X6_isIn L xs sio (d + 37) (u2 dt 79 17 0) hI4  p2 (by first | exact h_p2 | exact bnd h_p2 (by decide) (by decide) | exact ⟨by omega, by omega⟩) 0 ⟨by decide, by decide⟩ 7 ⟨by decide, by decide⟩ ) ?_
      rintro _ _ ⟨rfl, h359⟩
      refine ⟨rfl, ?_⟩
      rcases h359 with ⟨rfl, h359⟩ | ⟨rfl, h359⟩
      · skip
        refine go_toq PM174 (k := 3) (pc' := 51) (L' := [some (.inr (.inr (some 79))), some (.inl p1), some (.inl p2), none]) (st' := [.inl p1, .inr (.inr (some 79))]) (w' := (SH, (u2 dt 79 17 0))) rfl ?_
        have hI360 : InvC (u2 (u2 dt 79 17 0) 79 9 p1) := InvC_u2 hI4 (lo := 0) (hi := 1) rfl rfl rfl (by first | exact bnd1 h_p1 (by decide) | omega) (by first | exact bnd2 h_p1 (by decide) | omega)
        have hF361 : Fr [79, 80, 82, 83, 84] dt (u2 (u2 dt 79 17 0) 79 9 p1) := Fr_u2 hF5 (by decide)
        have w362 : (u2 (u2 dt 79 17 0) 79 9 p1) 79 2 = dt 79 2 := w6
        have w363 : (u2 (u2 dt 79 17 0) 79 9 p1) 79 9 = p1 := rfl
        have w364 : (u2 (u2 dt 79 17 0) 79 9 p1) 79 10 = dt 79 10 := w8
        have w365 : (u2 (u2 dt 79 17 0) 79 9 p1) 79 11 = dt 79 11 := w9
        have w366 : (u2 (u2 dt 79 17 0) 79 9 p1) 79 12 = dt 79 12 := w10
        have w367 : (u2 (u2 dt 79 17 0) 79 9 p1) 79 13 = dt 79 13 := w11
        have w368 : (u2 (u2 dt 79 17 0) 79 9 p1) 79 14 = dt 79 14 := w12
        have w369 : (u2 (u2 dt 79 17 0) 79 9 p1) 79 15 = dt 79 15 := w13
        clear w6 w7 w8 w9 w10 w11 w12 w13
        have E84370 : (u2 (u2 dt 79 17 0) 79 9 p1) 84 = dt 84 := (funext fun _ => rfl).trans E8414
        have E80371 : (u2 (u2 dt 79 17 0) 79 9 p1) 80 = dt 80 := (funext fun _ => u2_ne (fun z => absurd z.1 (by decide))).trans E8015
        refine go_smpq PM174 (L' := [some (.inr (.inr (some 79))), some (.inl p1), some (.inl p2), none]) (st' := []) (w' := (SH, (u2 (u2 dt 79 17 0) 79 9 p1))) rfl rfl (s_pf rfl rfl rfl rfl (by first | exact bnd h_p1 (by decide) (by decide) | exact ⟨by omega, by omega⟩)) ?_
        refine go_toq PM174 (k := 2) (pc' := 56) (L' := [some (.inr (.inr (some 79))), some (.inl p1), some (.inl p2), none]) (st' := [.inl 0, .inr (.inr (some 79))]) (w' := (SH, (u2 (u2 dt 79 17 0) 79 9 p1))) rfl ?_
        have hI372 : InvC (u2 (u2 (u2 dt 79 17 0) 79 9 p1) 79 13 0) := InvC_u2 hI360 (lo := 0) (hi := 501) rfl rfl rfl (by decide) (by decide)
        have hF373 : Fr [79, 80, 82, 83, 84] dt (u2 (u2 (u2 dt 79 17 0) 79 9 p1) 79 13 0) := Fr_u2 hF361 (by decide)
        have w374 : (u2 (u2 (u2 dt 79 17 0) 79 9 p1) 79 13 0) 79 2 = dt 79 2 := w362
        have w375 : (u2 (u2 (u2 dt 79 17 0) 79 9 p1) 79 13 0) 79 9 = p1 := w363
        have w376 : (u2 (u2 (u2 dt 79 17 0) 79 9 p1) 79 13 0) 79 10 = dt 79 10 := w364
        have w377 : (u2 (u2 (u2 dt 79 17 0) 79 9 p1) 79 13 0) 79 11 = dt 79 11 := w365
        have w378 : (u2 (u2 (u2 dt 79 17 0) 79 9 p1) 79 13 0) 79 12 = dt 79 12 := w366
        have w379 : (u2 (u2 (u2 dt 79 17 0) 79 9 p1) 79 13 0) 79 13 = 0 := rfl
        have w380 : (u2 (u2 (u2 dt 79 17 0) 79 9 p1) 79 13 0) 79 14 = dt 79 14 := w368
        have w381 : (u2 (u2 (u2 dt 79 17 0) 79 9 p1) 79 13 0) 79 15 = dt 79 15 := w369
        clear w362 w363 w364 w365 w366 w367 w368 w369
        have E84382 : (u2 (u2 (u2 dt 79 17 0) 79 9 p1) 79 13 0) 84 = dt 84 := (funext fun _ => rfl).trans E84370
        have E80383 : (u2 (u2 (u2 dt 79 17 0) 79 9 p1) 79 13 0) 80 = dt 80 := (funext fun _ => u2_ne (fun z => absurd z.1 (by decide))).trans E80371
        refine go_smpq PM174 (L' := [some (.inr (.inr (some 79))), some (.inl p1), some (.inl p2), none]) (st' := []) (w' := (SH, (u2 (u2 (u2 dt 79 17 0) 79 9 p1) 79 13 0))) rfl rfl (s_pf rfl rfl rfl rfl ⟨by decide, by decide⟩) ?_
        refine go_toq PM174 (k := 2) (pc' := 61) (L' := [some (.inr (.inr (some 79))), some (.inl p1), some (.inl p2), none]) (st' := [.inl 0, .inr (.inr (some 79))]) (w' := (SH, (u2 (u2 (u2 dt 79 17 0) 79 9 p1) 79 13 0))) rfl ?_
        have hI384 : InvC (u2 (u2 (u2 (u2 dt 79 17 0) 79 9 p1) 79 13 0) 79 10 0) := InvC_u2 hI372 (lo := 0) (hi := 24) rfl rfl rfl (by decide) (by decide)
        have hF385 : Fr [79, 80, 82, 83, 84] dt (u2 (u2 (u2 (u2 dt 79 17 0) 79 9 p1) 79 13 0) 79 10 0) := Fr_u2 hF373 (by decide)
        have w386 : (u2 (u2 (u2 (u2 dt 79 17 0) 79 9 p1) 79 13 0) 79 10 0) 79 2 = dt 79 2 := w374
        have w387 : (u2 (u2 (u2 (u2 dt 79 17 0) 79 9 p1) 79 13 0) 79 10 0) 79 9 = p1 := w375
        have w388 : (u2 (u2 (u2 (u2 dt 79 17 0) 79 9 p1) 79 13 0) 79 10 0) 79 10 = 0 := rfl
        have w389 : (u2 (u2 (u2 (u2 dt 79 17 0) 79 9 p1) 79 13 0) 79 10 0) 79 11 = dt 79 11 := w377
        have w390 : (u2 (u2 (u2 (u2 dt 79 17 0) 79 9 p1) 79 13 0) 79 10 0) 79 12 = dt 79 12 := w378
        have w391 : (u2 (u2 (u2 (u2 dt 79 17 0) 79 9 p1) 79 13 0) 79 10 0) 79 13 = 0 := w379
        have w392 : (u2 (u2 (u2 (u2 dt 79 17 0) 79 9 p1) 79 13 0) 79 10 0) 79 14 = dt 79 14 := w380
        have w393 : (u2 (u2 (u2 (u2 dt 79 17 0) 79 9 p1) 79 13 0) 79 10 0) 79 15 = dt 79 15 := w381
        clear w374 w375 w376 w377 w378 w379 w380 w381
        have E84394 : (u2 (u2 (u2 (u2 dt 79 17 0) 79 9 p1) 79 13 0) 79 10 0) 84 = dt 84 := (funext fun _ => rfl).trans E84382
        have E80395 : (u2 (u2 (u2 (u2 dt 79 17 0) 79 9 p1) 79 13 0) 79 10 0) 80 = dt 80 := (funext fun _ => u2_ne (fun z => absurd z.1 (by decide))).trans E80383
        refine go_smpq PM174 (L' := [some (.inr (.inr (some 79))), some (.inl p1), some (.inl p2), none]) (st' := []) (w' := (SH, (u2 (u2 (u2 (u2 dt 79 17 0) 79 9 p1) 79 13 0) 79 10 0))) rfl rfl (s_pf rfl rfl rfl rfl ⟨by decide, by decide⟩) ?_
        refine go_toq PM174 (k := 2) (pc' := 66) (L' := [some (.inr (.inr (some 79))), some (.inl p1), some (.inl p2), none]) (st' := [.inl 0, .inr (.inr (some 79))]) (w' := (SH, (u2 (u2 (u2 (u2 dt 79 17 0) 79 9 p1) 79 13 0) 79 10 0))) rfl ?_
        have hI396 : InvC (u2 (u2 (u2 (u2 (u2 dt 79 17 0) 79 9 p1) 79 13 0) 79 10 0) 79 11 0) := InvC_u2 hI384 (lo := 0) (hi := 510) rfl rfl rfl (by decide) (by decide)
        have hF397 : Fr [79, 80, 82, 83, 84] dt (u2 (u2 (u2 (u2 (u2 dt 79 17 0) 79 9 p1) 79 13 0) 79 10 0) 79 11 0) := Fr_u2 hF385 (by decide)
        have w398 : (u2 (u2 (u2 (u2 (u2 dt 79 17 0) 79 9 p1) 79 13 0) 79 10 0) 79 11 0) 79 2 = dt 79 2 := w386
        have w399 : (u2 (u2 (u2 (u2 (u2 dt 79 17 0) 79 9 p1) 79 13 0) 79 10 0) 79 11 0) 79 9 = p1 := w387
        have w400 : (u2 (u2 (u2 (u2 (u2 dt 79 17 0) 79 9 p1) 79 13 0) 79 10 0) 79 11 0) 79 10 = 0 := w388
        have w401 : (u2 (u2 (u2 (u2 (u2 dt 79 17 0) 79 9 p1) 79 13 0) 79 10 0) 79 11 0) 79 11 = 0 := rfl
        have w402 : (u2 (u2 (u2 (u2 (u2 dt 79 17 0) 79 9 p1) 79 13 0) 79 10 0) 79 11 0) 79 12 = dt 79 12 := w390
        have w403 : (u2 (u2 (u2 (u2 (u2 dt 79 17 0) 79 9 p1) 79 13 0) 79 10 0) 79 11 0) 79 13 = 0 := w391
        have w404 : (u2 (u2 (u2 (u2 (u2 dt 79 17 0) 79 9 p1) 79 13 0) 79 10 0) 79 11 0) 79 14 = dt 79 14 := w392
        have w405 : (u2 (u2 (u2 (u2 (u2 dt 79 17 0) 79 9 p1) 79 13 0) 79 10 0) 79 11 0) 79 15 = dt 79 15 := w393
        clear w386 w387 w388 w389 w390 w391 w392 w393
        have E84406 : (u2 (u2 (u2 (u2 (u2 dt 79 17 0) 79 9 p1) 79 13 0) 79 10 0) 79 11 0) 84 = dt 84 := (funext fun _ => rfl).trans E84394
        have E80407 : (u2 (u2 (u2 (u2 (u2 dt 79 17 0) 79 9 p1) 79 13 0) 79 10 0) 79 11 0) 80 = dt 80 := (funext fun _ => u2_ne (fun z => absurd z.1 (by decide))).trans E80395
        refine go_smpq PM174 (L' := [some (.inr (.inr (some 79))), some (.inl p1), some (.inl p2), none]) (st' := []) (w' := (SH, (u2 (u2 (u2 (u2 (u2 dt 79 17 0) 79 9 p1) 79 13 0) 79 10 0) 79 11 0))) rfl rfl (s_pf rfl rfl rfl rfl ⟨by decide, by decide⟩) ?_
        refine go_toq PM174 (k := 1) (pc' := 70) (L' := [some (.inr (.inr (some 79))), some (.inl p1), some (.inl p2), none]) (st' := [.inr (.inr (some 79))]) (w' := (SH, (u2 (u2 (u2 (u2 (u2 dt 79 17 0) 79 9 p1) 79 13 0) 79 10 0) 79 11 0))) rfl ?_
        refine go_callq PM174 PM159 (Q' := _) rfl rfl rfl rfl (sp_X6_next0 L xs sio (d + 31) (u2 (u2 (u2 (u2 (u2 dt 79 17 0) 79 9 p1) 79 13 0) 79 10 0) 79 11 0) hI396   (by first | exact True.intro | with_reducible assumption | rfl | omega | trivial | exact hI4 (by omega) (by omega) | exact hI5 (by omega) (by omega))) ?_
        rintro _ _ ⟨dt409, rfl, hI410, hF411, h408⟩
        refine ⟨rfl, ?_⟩
        have hF412 : Fr [79, 80, 82, 83, 84] dt dt409 := Fr_tr hF397 hF411 (by decide)
        have hM413 : MW (dt409 80) := MW_fr (d0 := (u2 (u2 (u2 (u2 (u2 dt 79 17 0) 79 9 p1) 79 13 0) 79 10 0) 79 11 0)) hM hF411 (by decide)
        have E80414 : dt409 80 = dt 80 := (funext (hF411 80 (by decide))).trans E80407
        have E84415 : dt409 84 = dt 84 := (funext (hF411 84 (by decide))).trans E84406
        rcases h408 with ⟨rfl, h408⟩
        obtain ⟨h408_0, h408_1, h408_2, h408_3, h408_4, h408_5, h408_6, h408_7, h408_8⟩ := h408
        have w416 : dt409 79 2 = dt 79 2 := h408_3.trans w398
        have w417 : dt409 79 9 = p1 := h408_4.trans w399
        have w418 : dt409 79 10 = 0 := h408_5.trans w400
        have w419 : dt409 79 11 = 0 := h408_6.trans w401
        have w420 : dt409 79 12 = dt 79 12 := h408_7.trans w402
        clear h408_3 w398 h408_4 w399 h408_5 w400 h408_6 w401 h408_7 w402
        refine go_toq PM174 (k := 2) (pc' := 75) (L' := [some (.inr (.inr (some 79))), some (.inl p1), some (.inl p2), some (.inl 1)]) (st' := []) (w' := (SH, dt409)) rfl ?_
        have loop522 : ∀ (k_ : Nat) (l75_3 : Int) (dt509 : Nat → Nat → Int) (hI510 : InvC dt509) (hF511 : Fr [79, 80, 82, 83, 84] dt dt509) (hM_dt509 : MW (dt509 80)) (i512 : 0 ≤ l75_3 ∧ l75_3 ≤ 1) (i513 : l75_3 = 1 → (¬ dt509 79 14 = 0 → dt509 79 15 + 1 ≤ dt509 79 13) ∧ dt509 79 13 ≤ 500) (i514 : dt509 79 15 ≤ 500) (i515 : l75_3 = 1 → dt509 79 11 ≤ dt509 79 15) (i516 : l75_3 = 1 → p1 = 1 → dt509 79 10 ≤ 16) (i517 : l75_3 = 1 → p1 = 0 → ARW (dt509 82) (dt509 79 10)) (i518 : l75_3 = 1 → p1 = 1 → LRW (dt509 83) (dt509 84) (dt509 79 10) (dt509 79 11)) (i519 : dt509 79 2 = dt 79 2) (i520 : dt509 79 9 = p1) (i521 : dt509 80 = dt 80), (l75_3 * (502 - dt509 79 15)).toNat < k_ → GO (am_XX L xs sio) (d + 38) 174 75 [some (.inr (.inr (some 79))), some (.inl p1), some (.inl p2), some (.inl l75_3)] [] (SH, dt509) (fun r w2 => ∃ dt2 : Nat → Nat → Int, w2 = (SH, dt2) ∧ InvC dt2 ∧ Fr [79, 80, 82, 83, 84] dt dt2 ∧ ((∃ v : Int, r = some (.inl v) ∧ ((-1) ≤ v ∧ v ≤ 24) ∧ (dt2 79 12 = 0) ∧ (dt2 79 2 = dt 79 2) ∧ (MW (dt2 80)) ∧ (dt2 80 0 = dt 80 0) ∧ (dt2 80 1 = dt 80 1) ∧ (dt2 80 2 = dt 80 2) ∧ (dt2 80 3 = dt 80 3) ∧ (dt2 80 4 = dt 80 4) ∧ (dt2 80 5 = dt 80 5)))) := by
          intro k_
          induction k_ with
          | zero => intro l75_3 dt509 hI510 hF511 hM_dt509 i512 i513 i514 i515 i516 i517 i518 i519 i520 i521 hm; exact absurd hm (Nat.not_lt_zero _)
          | succ k_ ih_loop522 =>
            intro l75_3 dt509 hI510 hF511 hM_dt509 i512 i513 i514 i515 i516 i517 i518 i519 i520 i521 hm
            replace i513 := hid i513
            replace i515 := hid i515
            replace i516 := hid i516
            replace i517 := hid i517
            replace i518 := hid i518
            have q10 : 0 ≤ dt509 79 10 ∧ dt509 79 10 ≤ 24 := InvC_get (by assumption) 79 10 rfl rfl
            have q11 : 0 ≤ dt509 79 11 ∧ dt509 79 11 ≤ 510 := InvC_get (by assumption) 79 11 rfl rfl
            have hE80 := i521
            have hI4 := i517
            have hI5 := i518
            have hm1 : l75_3 = 1 → (l75_3 * (502 - dt509 79 15)).toNat = (502 - dt509 79 15).toNat := fun e => by rw [e, Int.one_mul]
            replace hm1 := hid hm1
            have u9_ := hid (And.intro (unhid i513) (And.intro (unhid i515) (And.intro (unhid i516) (unhid hm1))))
            refine go_ifq PM174 (k := 1) (p1 := 123) (p2 := 79) (L' := [some (.inr (.inr (some 79))), some (.inl p1), some (.inl p2), some (.inl l75_3)]) (st' := []) (w' := (SH, dt509)) rfl (z_eq (a := l75_3) (by first | exact bnd i512 (by decide) (by decide) | exact ⟨by (first | omega | (have z_ := unhid u9_; omega)), by (first | omega | (have z_ := unhid u9_; omega))⟩)) (fun c523 => ?_) (fun c523 => ?_)
            · skip
              refine go_toq PM174 (k := 2) (pc' := 125) (L' := [some (.inr (.inr (some 79))), some (.inl p1), some (.inl p2), some (.inl l75_3)]) (st' := [.inl 0, .inr (.inr (some 79))]) (w' := (SH, dt509)) rfl ?_
              have hI524 : InvC (u2 dt509 79 12 0) := InvC_u2 hI510 (lo := 0) (hi := 500) rfl rfl rfl (by decide) (by decide)
              have hF525 : Fr [79, 80, 82, 83, 84] dt (u2 dt509 79 12 0) := Fr_u2 hF511 (by decide)
              have w526 : (u2 dt509 79 12 0) 79 2 = dt509 79 2 := rfl
              have w527 : (u2 dt509 79 12 0) 79 9 = dt509 79 9 := rfl
              have w528 : (u2 dt509 79 12 0) 79 10 = dt509 79 10 := rfl
              have w529 : (u2 dt509 79 12 0) 79 11 = dt509 79 11 := rfl
              have w530 : (u2 dt509 79 12 0) 79 12 = 0 := rfl
              have w531 : (u2 dt509 79 12 0) 79 13 = dt509 79 13 := rfl
              have w532 : (u2 dt509 79 12 0) 79 14 = dt509 79 14 := rfl
              have w533 : (u2 dt509 79 12 0) 79 15 = dt509 79 15 := rfl
              have E84534 : (u2 dt509 79 12 0) 84 = dt509 84 := funext fun _ => rfl
              have E80535 : (u2 dt509 79 12 0) 80 = dt 80 := (funext fun _ => u2_ne (fun z => absurd z.1 (by decide))).trans hE80
              refine go_smpq PM174 (L' := [some (.inr (.inr (some 79))), some (.inl p1), some (.inl p2), some (.inl l75_3)]) (st' := []) (w' := (SH, (u2 dt509 79 12 0))) rfl rfl (s_pf rfl rfl rfl rfl ⟨by decide, by decide⟩) ?_
              have r536 : (-2147483648) ≤ dt509 79 17 ∧ dt509 79 17 ≤ 2147483647 := InvC_get hI510 79 17 rfl rfl
              refine go_toq PM174 (k := 3) (pc' := 133) (L' := [some (.inr (.inr (some 79))), some (.inl p1), some (.inl p2), some (.inl l75_3)]) (st' := [.inl (dt509 79 17), .inr (.inr (some 79))]) (w' := (SH, (u2 dt509 79 12 0))) rfl ?_
              have hI537 : InvC (u2 (u2 dt509 79 12 0) 79 19 (dt509 79 17)) := InvC_u2 hI524 (lo := -2147483648) (hi := 2147483647) rfl rfl rfl (by first | exact bnd1 r536 (by decide) | (first | omega | (have z_ := unhid u9_; omega))) (by first | exact bnd2 r536 (by decide) | (first | omega | (have z_ := unhid u9_; omega)))
              have hF538 : Fr [79, 80, 82, 83, 84] dt (u2 (u2 dt509 79 12 0) 79 19 (dt509 79 17)) := Fr_u2 hF525 (by decide)
              have w539 : (u2 (u2 dt509 79 12 0) 79 19 (dt509 79 17)) 79 2 = dt509 79 2 := w526
              have w540 : (u2 (u2 dt509 79 12 0) 79 19 (dt509 79 17)) 79 9 = dt509 79 9 := w527
              have w541 : (u2 (u2 dt509 79 12 0) 79 19 (dt509 79 17)) 79 10 = dt509 79 10 := w528
              have w542 : (u2 (u2 dt509 79 12 0) 79 19 (dt509 79 17)) 79 11 = dt509 79 11 := w529
              have w543 : (u2 (u2 dt509 79 12 0) 79 19 (dt509 79 17)) 79 12 = 0 := w530
              have w544 : (u2 (u2 dt509 79 12 0) 79 19 (dt509 79 17)) 79 13 = dt509 79 13 := w531
              have w545 : (u2 (u2 dt509 79 12 0) 79 19 (dt509 79 17)) 79 14 = dt509 79 14 := w532
              have w546 : (u2 (u2 dt509 79 12 0) 79 19 (dt509 79 17)) 79 15 = dt509 79 15 := w533
              clear w526 w527 w528 w529 w530 w531 w532 w533
              have E84547 : (u2 (u2 dt509 79 12 0) 79 19 (dt509 79 17)) 84 = dt509 84 := (funext fun _ => rfl).trans E84534
              have E80548 : (u2 (u2 dt509 79 12 0) 79 19 (dt509 79 17)) 80 = dt 80 := (funext fun _ => u2_ne (fun z => absurd z.1 (by decide))).trans E80535
              refine go_smpq PM174 (L' := [some (.inr (.inr (some 79))), some (.inl p1), some (.inl p2), some (.inl l75_3)]) (st' := []) (w' := (SH, (u2 (u2 dt509 79 12 0) 79 19 (dt509 79 17)))) rfl rfl (s_pf rfl rfl rfl rfl (by first | exact bnd r536 (by decide) (by decide) | exact ⟨by (first | omega | (have z_ := unhid u9_; omega)), by (first | omega | (have z_ := unhid u9_; omega))⟩)) ?_
              refine go_ifq PM174 (k := 2) (p1 := 145) (p2 := 141) (L' := [some (.inr (.inr (some 79))), some (.inl p1), some (.inl p2), some (.inl l75_3)]) (st' := [.inr (.inr (some 79))]) (w' := (SH, (u2 (u2 dt509 79 12 0) 79 19 (dt509 79 17)))) rfl (z_eq (a := l75_3) (by first | exact bnd i512 (by decide) (by decide) | exact ⟨by (first | omega | (have z_ := unhid u9_; omega)), by (first | omega | (have z_ := unhid u9_; omega))⟩)) (fun c549 => ?_) (fun c549 => ?_)
              · skip
                have r550 : (-2147483648) ≤ dt509 79 18 ∧ dt509 79 18 ≤ 2147483647 := InvC_get hI510 79 18 rfl rfl
                refine go_toq PM174 (k := 2) (pc' := 149) (L' := [some (.inr (.inr (some 79))), some (.inl p1), some (.inl p2), some (.inl l75_3)]) (st' := [.inl (dt509 79 18), .inr (.inr (some 79))]) (w' := (SH, (u2 (u2 dt509 79 12 0) 79 19 (dt509 79 17)))) rfl ?_
                have hI551 : InvC (u2 (u2 (u2 dt509 79 12 0) 79 19 (dt509 79 17)) 79 21 (dt509 79 18)) := InvC_u2 hI537 (lo := -2147483648) (hi := 2147483647) rfl rfl rfl (by first | exact bnd1 r550 (by decide) | (first | omega | (have z_ := unhid u9_; omega))) (by first | exact bnd2 r550 (by decide) | (first | omega | (have z_ := unhid u9_; omega)))
                have hF552 : Fr [79, 80, 82, 83, 84] dt (u2 (u2 (u2 dt509 79 12 0) 79 19 (dt509 79 17)) 79 21 (dt509 79 18)) := Fr_u2 hF538 (by decide)
                have w553 : (u2 (u2 (u2 dt509 79 12 0) 79 19 (dt509 79 17)) 79 21 (dt509 79 18)) 79 2 = dt509 79 2 := w539
                have w554 : (u2 (u2 (u2 dt509 79 12 0) 79 19 (dt509 79 17)) 79 21 (dt509 79 18)) 79 9 = dt509 79 9 := w540
                have w555 : (u2 (u2 (u2 dt509 79 12 0) 79 19 (dt509 79 17)) 79 21 (dt509 79 18)) 79 10 = dt509 79 10 := w541
                have w556 : (u2 (u2 (u2 dt509 79 12 0) 79 19 (dt509 79 17)) 79 21 (dt509 79 18)) 79 11 = dt509 79 11 := w542
                have w557 : (u2 (u2 (u2 dt509 79 12 0) 79 19 (dt509 79 17)) 79 21 (dt509 79 18)) 79 12 = 0 := w543
                have w558 : (u2 (u2 (u2 dt509 79 12 0) 79 19 (dt509 79 17)) 79 21 (dt509 79 18)) 79 13 = dt509 79 13 := w544
                have w559 : (u2 (u2 (u2 dt509 79 12 0) 79 19 (dt509 79 17)) 79 21 (dt509 79 18)) 79 14 = dt509 79 14 := w545
                have w560 : (u2 (u2 (u2 dt509 79 12 0) 79 19 (dt509 79 17)) 79 21 (dt509 79 18)) 79 15 = dt509 79 15 := w546
                clear w539 w540 w541 w542 w543 w544 w545 w546
                have E84561 : (u2 (u2 (u2 dt509 79 12 0) 79 19 (dt509 79 17)) 79 21 (dt509 79 18)) 84 = dt509 84 := (funext fun _ => rfl).trans E84547
                have E80562 : (u2 (u2 (u2 dt509 79 12 0) 79 19 (dt509 79 17)) 79 21 (dt509 79 18)) 80 = dt 80 := (funext fun _ => u2_ne (fun z => absurd z.1 (by decide))).trans E80548
                refine go_smpq PM174 (L' := [some (.inr (.inr (some 79))), some (.inl p1), some (.inl p2), some (.inl l75_3)]) (st' := []) (w' := (SH, (u2 (u2 (u2 dt509 79 12 0) 79 19 (dt509 79 17)) 79 21 (dt509 79 18)))) rfl rfl (s_pf rfl rfl rfl rfl (by first | exact bnd r550 (by decide) (by decide) | exact ⟨by (first | omega | (have z_ := unhid u9_; omega)), by (first | omega | (have z_ := unhid u9_; omega))⟩)) ?_
                refine go_ifq PM174 (k := 1) (p1 := 158) (p2 := 156) (L' := [some (.inr (.inr (some 79))), some (.inl p1), some (.inl p2), some (.inl l75_3)]) (st' := []) (w' := (SH, (u2 (u2 (u2 dt509 79 12 0) 79 19 (dt509 79 17)) 79 21 (dt509 79 18)))) rfl (z_ne (a := l75_3) (by first | exact bnd i512 (by decide) (by decide) | exact ⟨by (first | omega | (have z_ := unhid u9_; omega)), by (first | omega | (have z_ := unhid u9_; omega))⟩)) (fun c563 => ?_) (fun c563 => ?_)
                · skip
                  replace c563 := hid c563
                  refine go_toq PM174 (k := 2) (pc' := 160) (L' := [some (.inr (.inr (some 79))), some (.inl p1), some (.inl p2), some (.inl l75_3)]) (st' := [.inl p2, .inr (.inr (some 79))]) (w' := (SH, (u2 (u2 (u2 dt509 79 12 0) 79 19 (dt509 79 17)) 79 21 (dt509 79 18)))) rfl ?_
                  have u10_ := hid (And.intro (unhid i513) (And.intro (unhid i515) (And.intro (unhid i516) (And.intro (unhid hm1) (unhid c563)))))
                  refine go_callq PM174 PM175 (Q' := _) rfl rfl rfl rfl (sp_X6_keeps_k0 L xs sio (d + 37) (u2 (u2 (u2 dt509 79 12 0) 79 19 (dt509 79 17)) 79 21 (dt509 79 18)) hI551 hM_dt509  p2 (by first | exact h_p2 | exact bnd h_p2 (by decide) (by decide) | exact ⟨by (first | omega | (have z_ := unhid u10_; omega)), by (first | omega | (have z_ := unhid u10_; omega))⟩) (by first | exact True.intro | with_reducible assumption | exact unhid (by with_reducible assumption) | rfl | (first | omega | (have z_ := unhid u10_; omega)) | trivial | exact hI4 (by (first | omega | (have z_ := unhid u10_; omega))) (by (first | omega | (have z_ := unhid u10_; omega))) | exact hI5 (by (first | omega | (have z_ := unhid u10_; omega))) (by (first | omega | (have z_ := unhid u10_; omega)))) (by first | exact True.intro | with_reducible assumption | exact unhid (by with_reducible assumption) | rfl | (first | omega | (have z_ := unhid u10_; omega)) | trivial | exact hI4 (by (first | omega | (have z_ := unhid u10_; omega))) (by (first | omega | (have z_ := unhid u10_; omega))) | exact hI5 (by (first | omega | (have z_ := unhid u10_; omega))) (by (first | omega | (have z_ := unhid u10_; omega)))) (by first | exact True.intro | with_reducible assumption | exact unhid (by with_reducible assumption) | rfl | (first | omega | (have z_ := unhid u10_; omega)) | trivial | exact hI4 (by (first | omega | (have z_ := unhid u10_; omega))) (by (first | omega | (have z_ := unhid u10_; omega))) | exact hI5 (by (first | omega | (have z_ := unhid u10_; omega))) (by (first | omega | (have z_ := unhid u10_; omega))))) ?_
                  rintro _ _ ⟨dt565, rfl, hI566, hF567, h564⟩
                  refine ⟨rfl, ?_⟩
                  have hF568 : Fr [79, 80, 82, 83, 84] dt dt565 := Fr_tr hF552 hF567 (by decide)
                  have w569 : dt565 79 2 = dt509 79 2 := (hF567 79 (by decide) 2).trans w553
                  have w570 : dt565 79 9 = dt509 79 9 := (hF567 79 (by decide) 9).trans w554
                  have w571 : dt565 79 10 = dt509 79 10 := (hF567 79 (by decide) 10).trans w555
                  have w572 : dt565 79 11 = dt509 79 11 := (hF567 79 (by decide) 11).trans w556
                  have w573 : dt565 79 12 = 0 := (hF567 79 (by decide) 12).trans w557
                  have w574 : dt565 79 13 = dt509 79 13 := (hF567 79 (by decide) 13).trans w558
                  have w575 : dt565 79 14 = dt509 79 14 := (hF567 79 (by decide) 14).trans w559
                  have w576 : dt565 79 15 = dt509 79 15 := (hF567 79 (by decide) 15).trans w560
                  clear w553 w554 w555 w556 w557 w558 w559 w560
                  have E84577 : dt565 84 = dt509 84 := (funext (hF567 84 (by decide))).trans E84561
                  rcases h564 with ⟨rfl, h564⟩
                  have hM578 : MW (dt565 80) := h564.1
                  obtain ⟨h564_0, h564_1, h564_2, h564_3, h564_4, h564_5, h564_6⟩ := h564
                  have r579 : 0 ≤ dt565 79 10 ∧ dt565 79 10 ≤ 24 := InvC_get hI566 79 10 rfl rfl
                  refine go_retq PM174 (k := 2) (r := some (.inl (dt565 79 10))) (w1 := (SH, dt565)) rfl ?_
                  exact ⟨dt565, rfl, hI566, hF568, ⟨_, rfl, (by first | exact bnd r579 (by decide) (by decide) | exact ⟨by (first | omega | (have z_ := unhid u10_; omega)), by (first | omega | (have z_ := unhid u10_; omega))⟩), ⟨by first | exact True.intro | with_reducible assumption | exact unhid (by with_reducible assumption) | rfl | (first | omega | (have z_ := unhid u10_; omega)) | trivial, by first | exact True.intro | with_reducible assumption | exact unhid (by with_reducible assumption) | rfl | (first | omega | (have z_ := unhid u10_; omega)) | trivial, by first | assumption | exact hM, by first | rfl | exact congrFun E80562 0 | exact Eq.trans (by assumption) (congrFun E80562 0), by first | rfl | exact congrFun E80562 1 | exact Eq.trans (by assumption) (congrFun E80562 1), by first | rfl | exact congrFun E80562 2 | exact Eq.trans (by assumption) (congrFun E80562 2), by first | rfl | exact congrFun E80562 3 | exact Eq.trans (by assumption) (congrFun E80562 3), by first | rfl | exact congrFun E80562 4 | exact Eq.trans (by assumption) (congrFun E80562 4), by first | rfl | exact congrFun E80562 5 | exact Eq.trans (by assumption) (congrFun E80562 5)⟩⟩⟩
                · skip
                  refine go_retq PM174 (k := 1) (r := some (.inl (-1))) (w1 := (SH, (u2 (u2 (u2 dt509 79 12 0) 79 19 (dt509 79 17)) 79 21 (dt509 79 18)))) rfl ?_
                  exact ⟨(u2 (u2 (u2 dt509 79 12 0) 79 19 (dt509 79 17)) 79 21 (dt509 79 18)), rfl, hI551, hF552, ⟨_, rfl, ⟨by decide, by decide⟩, ⟨by first | exact True.intro | with_reducible assumption | exact unhid (by with_reducible assumption) | rfl | (first | omega | (have z_ := unhid u9_; omega)) | trivial, by first | exact True.intro | with_reducible assumption | exact unhid (by with_reducible assumption) | rfl | (first | omega | (have z_ := unhid u9_; omega)) | trivial, by first | assumption | exact hM, by first | rfl | exact congrFun E80562 0 | exact Eq.trans (by assumption) (congrFun E80562 0), by first | rfl | exact congrFun E80562 1 | exact Eq.trans (by assumption) (congrFun E80562 1), by first | rfl | exact congrFun E80562 2 | exact Eq.trans (by assumption) (congrFun E80562 2), by first | rfl | exact congrFun E80562 3 | exact Eq.trans (by assumption) (congrFun E80562 3), by first | rfl | exact congrFun E80562 4 | exact Eq.trans (by assumption) (congrFun E80562 4), by first | rfl | exact congrFun E80562 5 | exact Eq.trans (by assumption) (congrFun E80562 5)⟩⟩⟩
              · skip
                replace c549 := hid c549
                refine go_toq PM174 (k := 2) (pc' := 149) (L' := [some (.inr (.inr (some 79))), some (.inl p1), some (.inl p2), some (.inl l75_3)]) (st' := [.inl (-1), .inr (.inr (some 79))]) (w' := (SH, (u2 (u2 dt509 79 12 0) 79 19 (dt509 79 17)))) rfl ?_
                have hI580 : InvC (u2 (u2 (u2 dt509 79 12 0) 79 19 (dt509 79 17)) 79 21 (-1)) := InvC_u2 hI537 (lo := -2147483648) (hi := 2147483647) rfl rfl rfl (by decide) (by decide)
                have hF581 : Fr [79, 80, 82, 83, 84] dt (u2 (u2 (u2 dt509 79 12 0) 79 19 (dt509 79 17)) 79 21 (-1)) := Fr_u2 hF538 (by decide)
                have w582 : (u2 (u2 (u2 dt509 79 12 0) 79 19 (dt509 79 17)) 79 21 (-1)) 79 2 = dt509 79 2 := w539
                have w583 : (u2 (u2 (u2 dt509 79 12 0) 79 19 (dt509 79 17)) 79 21 (-1)) 79 9 = dt509 79 9 := w540
                have w584 : (u2 (u2 (u2 dt509 79 12 0) 79 19 (dt509 79 17)) 79 21 (-1)) 79 10 = dt509 79 10 := w541
                have w585 : (u2 (u2 (u2 dt509 79 12 0) 79 19 (dt509 79 17)) 79 21 (-1)) 79 11 = dt509 79 11 := w542
                have w586 : (u2 (u2 (u2 dt509 79 12 0) 79 19 (dt509 79 17)) 79 21 (-1)) 79 12 = 0 := w543
                have w587 : (u2 (u2 (u2 dt509 79 12 0) 79 19 (dt509 79 17)) 79 21 (-1)) 79 13 = dt509 79 13 := w544
                have w588 : (u2 (u2 (u2 dt509 79 12 0) 79 19 (dt509 79 17)) 79 21 (-1)) 79 14 = dt509 79 14 := w545
                have w589 : (u2 (u2 (u2 dt509 79 12 0) 79 19 (dt509 79 17)) 79 21 (-1)) 79 15 = dt509 79 15 := w546
                clear w539 w540 w541 w542 w543 w544 w545 w546
                have E84590 : (u2 (u2 (u2 dt509 79 12 0) 79 19 (dt509 79 17)) 79 21 (-1)) 84 = dt509 84 := (funext fun _ => rfl).trans E84547
                have E80591 : (u2 (u2 (u2 dt509 79 12 0) 79 19 (dt509 79 17)) 79 21 (-1)) 80 = dt 80 := (funext fun _ => u2_ne (fun z => absurd z.1 (by decide))).trans E80548
                refine go_smpq PM174 (L' := [some (.inr (.inr (some 79))), some (.inl p1), some (.inl p2), some (.inl l75_3)]) (st' := []) (w' := (SH, (u2 (u2 (u2 dt509 79 12 0) 79 19 (dt509 79 17)) 79 21 (-1)))) rfl rfl (s_pf rfl rfl rfl rfl ⟨by decide, by decide⟩) ?_
                have u11_ := hid (And.intro (unhid i513) (And.intro (unhid i515) (And.intro (unhid i516) (And.intro (unhid hm1) (unhid c549)))))
                refine go_ifq PM174 (k := 1) (p1 := 158) (p2 := 156) (L' := [some (.inr (.inr (some 79))), some (.inl p1), some (.inl p2), some (.inl l75_3)]) (st' := []) (w' := (SH, (u2 (u2 (u2 dt509 79 12 0) 79 19 (dt509 79 17)) 79 21 (-1)))) rfl (z_ne (a := l75_3) (by first | exact bnd i512 (by decide) (by decide) | exact ⟨by (first | omega | (have z_ := unhid u11_; omega)), by (first | omega | (have z_ := unhid u11_; omega))⟩)) (fun c592 => ?_) (fun c592 => ?_)
                · skip
                  replace c592 := hid c592
                  refine go_toq PM174 (k := 2) (pc' := 160) (L' := [some (.inr (.inr (some 79))), some (.inl p1), some (.inl p2), some (.inl l75_3)]) (st' := [.inl p2, .inr (.inr (some 79))]) (w' := (SH, (u2 (u2 (u2 dt509 79 12 0) 79 19 (dt509 79 17)) 79 21 (-1)))) rfl ?_
                  have u12_ := hid (And.intro (unhid i513) (And.intro (unhid i515) (And.intro (unhid i516) (And.intro (unhid hm1) (And.intro (unhid c549) (unhid c592))))))
                  refine go_callq PM174 PM175 (Q' := _) rfl rfl rfl rfl (sp_X6_keeps_k0 L xs sio (d + 37) (u2 (u2 (u2 dt509 79 12 0) 79 19 (dt509 79 17)) 79 21 (-1)) hI580 hM_dt509  p2 (by first | exact h_p2 | exact bnd h_p2 (by decide) (by decide) | exact ⟨by (first | omega | (have z_ := unhid u12_; omega)), by (first | omega | (have z_ := unhid u12_; omega))⟩) (by first | exact True.intro | with_reducible assumption | exact unhid (by with_reducible assumption) | rfl | (first | omega | (have z_ := unhid u12_; omega)) | trivial | exact hI4 (by (first | omega | (have z_ := unhid u12_; omega))) (by (first | omega | (have z_ := unhid u12_; omega))) | exact hI5 (by (first | omega | (have z_ := unhid u12_; omega))) (by (first | omega | (have z_ := unhid u12_; omega)))) (by first | exact True.intro | with_reducible assumption | exact unhid (by with_reducible assumption) | rfl | (first | omega | (have z_ := unhid u12_; omega)) | trivial | exact hI4 (by (first | omega | (have z_ := unhid u12_; omega))) (by (first | omega | (have z_ := unhid u12_; omega))) | exact hI5 (by (first | omega | (have z_ := unhid u12_; omega))) (by (first | omega | (have z_ := unhid u12_; omega)))) (by first | exact True.intro | with_reducible assumption | exact unhid (by with_reducible assumption) | rfl | (first | omega | (have z_ := unhid u12_; omega)) | trivial | exact hI4 (by (first | omega | (have z_ := unhid u12_; omega))) (by (first | omega | (have z_ := unhid u12_; omega))) | exact hI5 (by (first | omega | (have z_ := unhid u12_; omega))) (by (first | omega | (have z_ := unhid u12_; omega))))) ?_
                  rintro _ _ ⟨dt594, rfl, hI595, hF596, h593⟩
                  refine ⟨rfl, ?_⟩
                  have hF597 : Fr [79, 80, 82, 83, 84] dt dt594 := Fr_tr hF581 hF596 (by decide)
                  have w598 : dt594 79 2 = dt509 79 2 := (hF596 79 (by decide) 2).trans w582
                  have w599 : dt594 79 9 = dt509 79 9 := (hF596 79 (by decide) 9).trans w583
                  have w600 : dt594 79 10 = dt509 79 10 := (hF596 79 (by decide) 10).trans w584
                  have w601 : dt594 79 11 = dt509 79 11 := (hF596 79 (by decide) 11).trans w585
                  have w602 : dt594 79 12 = 0 := (hF596 79 (by decide) 12).trans w586
                  have w603 : dt594 79 13 = dt509 79 13 := (hF596 79 (by decide) 13).trans w587
                  have w604 : dt594 79 14 = dt509 79 14 := (hF596 79 (by decide) 14).trans w588
                  have w605 : dt594 79 15 = dt509 79 15 := (hF596 79 (by decide) 15).trans w589
                  clear w582 w583 w584 w585 w586 w587 w588 w589
                  have E84606 : dt594 84 = dt509 84 := (funext (hF596 84 (by decide))).trans E84590
                  rcases h593 with ⟨rfl, h593⟩
                  have hM607 : MW (dt594 80) := h593.1
                  obtain ⟨h593_0, h593_1, h593_2, h593_3, h593_4, h593_5, h593_6⟩ := h593
                  have r608 : 0 ≤ dt594 79 10 ∧ dt594 79 10 ≤ 24 := InvC_get hI595 79 10 rfl rfl
                  refine go_retq PM174 (k := 2) (r := some (.inl (dt594 79 10))) (w1 := (SH, dt594)) rfl ?_
                  exact ⟨dt594, rfl, hI595, hF597, ⟨_, rfl, (by first | exact bnd r608 (by decide) (by decide) | exact ⟨by (first | omega | (have z_ := unhid u12_; omega)), by (first | omega | (have z_ := unhid u12_; omega))⟩), ⟨by first | exact True.intro | with_reducible assumption | exact unhid (by with_reducible assumption) | rfl | (first | omega | (have z_ := unhid u12_; omega)) | trivial, by first | exact True.intro | with_reducible assumption | exact unhid (by with_reducible assumption) | rfl | (first | omega | (have z_ := unhid u12_; omega)) | trivial, by first | assumption | exact hM, by first | rfl | exact congrFun E80591 0 | exact Eq.trans (by assumption) (congrFun E80591 0), by first | rfl | exact congrFun E80591 1 | exact Eq.trans (by assumption) (congrFun E80591 1), by first | rfl | exact congrFun E80591 2 | exact Eq.trans (by assumption) (congrFun E80591 2), by first | rfl | exact congrFun E80591 3 | exact Eq.trans (by assumption) (congrFun E80591 3), by first | rfl | exact congrFun E80591 4 | exact Eq.trans (by assumption) (congrFun E80591 4), by first | rfl | exact congrFun E80591 5 | exact Eq.trans (by assumption) (congrFun E80591 5)⟩⟩⟩
                · exfalso; (first | omega | (have z_ := unhid u11_; omega))
            · skip
              replace c523 := hid c523
              have u13_ := hid (And.intro (unhid i513) (And.intro (unhid i515) (And.intro (unhid i516) (And.intro (unhid hm1) (unhid c523)))))
              have hc609 : l75_3 = 1 := by (first | omega | (have z_ := unhid u13_; omega))
              subst hc609
              have r610 : (-2147483648) ≤ dt509 79 14 ∧ dt509 79 14 ≤ 2147483647 := InvC_get hI510 79 14 rfl rfl
              refine go_ifq PM174 (k := 2) (p1 := 123) (p2 := 86) (L' := [some (.inr (.inr (some 79))), some (.inl p1), some (.inl p2), some (.inl 1)]) (st' := []) (w' := (SH, dt509)) rfl (z_eq (a := dt509 79 14) (by first | exact bnd r610 (by decide) (by decide) | exact ⟨by (first | omega | (have z_ := unhid u13_; omega)), by (first | omega | (have z_ := unhid u13_; omega))⟩)) (fun c611 => ?_) (fun c611 => ?_)
              · skip
                refine go_toq PM174 (k := 2) (pc' := 125) (L' := [some (.inr (.inr (some 79))), some (.inl p1), some (.inl p2), some (.inl 1)]) (st' := [.inl 0, .inr (.inr (some 79))]) (w' := (SH, dt509)) rfl ?_
                have hI612 : InvC (u2 dt509 79 12 0) := InvC_u2 hI510 (lo := 0) (hi := 500) rfl rfl rfl (by decide) (by decide)
                have hF613 : Fr [79, 80, 82, 83, 84] dt (u2 dt509 79 12 0) := Fr_u2 hF511 (by decide)
                have w614 : (u2 dt509 79 12 0) 79 2 = dt509 79 2 := rfl
                have w615 : (u2 dt509 79 12 0) 79 9 = dt509 79 9 := rfl
                have w616 : (u2 dt509 79 12 0) 79 10 = dt509 79 10 := rfl
                have w617 : (u2 dt509 79 12 0) 79 11 = dt509 79 11 := rfl
                have w618 : (u2 dt509 79 12 0) 79 12 = 0 := rfl
                have w619 : (u2 dt509 79 12 0) 79 13 = dt509 79 13 := rfl
                have w620 : (u2 dt509 79 12 0) 79 14 = dt509 79 14 := rfl
                have w621 : (u2 dt509 79 12 0) 79 15 = dt509 79 15 := rfl
                have E84622 : (u2 dt509 79 12 0) 84 = dt509 84 := funext fun _ => rfl
                have E80623 : (u2 dt509 79 12 0) 80 = dt 80 := (funext fun _ => u2_ne (fun z => absurd z.1 (by decide))).trans hE80
                refine go_smpq PM174 (L' := [some (.inr (.inr (some 79))), some (.inl p1), some (.inl p2), some (.inl 1)]) (st' := []) (w' := (SH, (u2 dt509 79 12 0))) rfl rfl (s_pf rfl rfl rfl rfl ⟨by decide, by decide⟩) ?_
                have r624 : (-2147483648) ≤ dt509 79 17 ∧ dt509 79 17 ≤ 2147483647 := InvC_get hI510 79 17 rfl rfl
                refine go_toq PM174 (k := 3) (pc' := 133) (L' := [some (.inr (.inr (some 79))), some (.inl p1), some (.inl p2), some (.inl 1)]) (st' := [.inl (dt509 79 17), .inr (.inr (some 79))]) (w' := (SH, (u2 dt509 79 12 0))) rfl ?_
                have hI625 : InvC (u2 (u2 dt509 79 12 0) 79 19 (dt509 79 17)) := InvC_u2 hI612 (lo := -2147483648) (hi := 2147483647) rfl rfl rfl (by first | exact bnd1 r624 (by decide) | (first | omega | (have z_ := unhid u13_; omega))) (by first | exact bnd2 r624 (by decide) | (first | omega | (have z_ := unhid u13_; omega)))
                have hF626 : Fr [79, 80, 82, 83, 84] dt (u2 (u2 dt509 79 12 0) 79 19 (dt509 79 17)) := Fr_u2 hF613 (by decide)
                have w627 : (u2 (u2 dt509 79 12 0) 79 19 (dt509 79 17)) 79 2 = dt509 79 2 := w614
                have w628 : (u2 (u2 dt509 79 12 0) 79 19 (dt509 79 17)) 79 9 = dt509 79 9 := w615
                have w629 : (u2 (u2 dt509 79 12 0) 79 19 (dt509 79 17)) 79 10 = dt509 79 10 := w616
                have w630 : (u2 (u2 dt509 79 12 0) 79 19 (dt509 79 17)) 79 11 = dt509 79 11 := w617
                have w631 : (u2 (u2 dt509 79 12 0) 79 19 (dt509 79 17)) 79 12 = 0 := w618
                have w632 : (u2 (u2 dt509 79 12 0) 79 19 (dt509 79 17)) 79 13 = dt509 79 13 := w619
                have w633 : (u2 (u2 dt509 79 12 0) 79 19 (dt509 79 17)) 79 14 = dt509 79 14 := w620
                have w634 : (u2 (u2 dt509 79 12 0) 79 19 (dt509 79 17)) 79 15 = dt509 79 15 := w621
                clear w614 w615 w616 w617 w618 w619 w620 w621
                have E84635 : (u2 (u2 dt509 79 12 0) 79 19 (dt509 79 17)) 84 = dt509 84 := (funext fun _ => rfl).trans E84622
                have E80636 : (u2 (u2 dt509 79 12 0) 79 19 (dt509 79 17)) 80 = dt 80 := (funext fun _ => u2_ne (fun z => absurd z.1 (by decide))).trans E80623
                refine go_smpq PM174 (L' := [some (.inr (.inr (some 79))), some (.inl p1), some (.inl p2), some (.inl 1)]) (st' := []) (w' := (SH, (u2 (u2 dt509 79 12 0) 79 19 (dt509 79 17)))) rfl rfl (s_pf rfl rfl rfl rfl (by first | exact bnd r624 (by decide) (by decide) | exact ⟨by (first | omega | (have z_ := unhid u13_; omega)), by (first | omega | (have z_ := unhid u13_; omega))⟩)) ?_
                refine go_toq PM174 (k := 5) (pc' := 149) (L' := [some (.inr (.inr (some 79))), some (.inl p1), some (.inl p2), some (.inl 1)]) (st' := [.inl (-1), .inr (.inr (some 79))]) (w' := (SH, (u2 (u2 dt509 79 12 0) 79 19 (dt509 79 17)))) rfl ?_
                have hI637 : InvC (u2 (u2 (u2 dt509 79 12 0) 79 19 (dt509 79 17)) 79 21 (-1)) := InvC_u2 hI625 (lo := -2147483648) (hi := 2147483647) rfl rfl rfl (by decide) (by decide)
                have hF638 : Fr [79, 80, 82, 83, 84] dt (u2 (u2 (u2 dt509 79 12 0) 79 19 (dt509 79 17)) 79 21 (-1)) := Fr_u2 hF626 (by decide)
                have w639 : (u2 (u2 (u2 dt509 79 12 0) 79 19 (dt509 79 17)) 79 21 (-1)) 79 2 = dt509 79 2 := w627
                have w640 : (u2 (u2 (u2 dt509 79 12 0) 79 19 (dt509 79 17)) 79 21 (-1)) 79 9 = dt509 79 9 := w628
                have w641 : (u2 (u2 (u2 dt509 79 12 0) 79 19 (dt509 79 17)) 79 21 (-1)) 79 10 = dt509 79 10 := w629
                have w642 : (u2 (u2 (u2 dt509 79 12 0) 79 19 (dt509 79 17)) 79 21 (-1)) 79 11 = dt509 79 11 := w630
                have w643 : (u2 (u2 (u2 dt509 79 12 0) 79 19 (dt509 79 17)) 79 21 (-1)) 79 12 = 0 := w631
                have w644 : (u2 (u2 (u2 dt509 79 12 0) 79 19 (dt509 79 17)) 79 21 (-1)) 79 13 = dt509 79 13 := w632
                have w645 : (u2 (u2 (u2 dt509 79 12 0) 79 19 (dt509 79 17)) 79 21 (-1)) 79 14 = dt509 79 14 := w633
                have w646 : (u2 (u2 (u2 dt509 79 12 0) 79 19 (dt509 79 17)) 79 21 (-1)) 79 15 = dt509 79 15 := w634
                clear w627 w628 w629 w630 w631 w632 w633 w634
                have E84647 : (u2 (u2 (u2 dt509 79 12 0) 79 19 (dt509 79 17)) 79 21 (-1)) 84 = dt509 84 := (funext fun _ => rfl).trans E84635
                have E80648 : (u2 (u2 (u2 dt509 79 12 0) 79 19 (dt509 79 17)) 79 21 (-1)) 80 = dt 80 := (funext fun _ => u2_ne (fun z => absurd z.1 (by decide))).trans E80636
                refine go_smpq PM174 (L' := [some (.inr (.inr (some 79))), some (.inl p1), some (.inl p2), some (.inl 1)]) (st' := []) (w' := (SH, (u2 (u2 (u2 dt509 79 12 0) 79 19 (dt509 79 17)) 79 21 (-1)))) rfl rfl (s_pf rfl rfl rfl rfl ⟨by decide, by decide⟩) ?_
                refine go_toq PM174 (k := 4) (pc' := 160) (L' := [some (.inr (.inr (some 79))), some (.inl p1), some (.inl p2), some (.inl 1)]) (st' := [.inl p2, .inr (.inr (some 79))]) (w' := (SH, (u2 (u2 (u2 dt509 79 12 0) 79 19 (dt509 79 17)) 79 21 (-1)))) rfl ?_
                refine go_callq PM174 PM175 (Q' := _) rfl rfl rfl rfl (sp_X6_keeps_k0 L xs sio (d + 37) (u2 (u2 (u2 dt509 79 12 0) 79 19 (dt509 79 17)) 79 21 (-1)) hI637 hM_dt509  p2 (by first | exact h_p2 | exact bnd h_p2 (by decide) (by decide) | exact ⟨by (first | omega | (have z_ := unhid u13_; omega)), by (first | omega | (have z_ := unhid u13_; omega))⟩) (by first | exact True.intro | with_reducible assumption | exact unhid (by with_reducible assumption) | rfl | (first | omega | (have z_ := unhid u13_; omega)) | trivial | exact hI4 (by (first | omega | (have z_ := unhid u13_; omega))) (by (first | omega | (have z_ := unhid u13_; omega))) | exact hI5 (by (first | omega | (have z_ := unhid u13_; omega))) (by (first | omega | (have z_ := unhid u13_; omega)))) (by first | exact True.intro | with_reducible assumption | exact unhid (by with_reducible assumption) | rfl | (first | omega | (have z_ := unhid u13_; omega)) | trivial | exact hI4 (by (first | omega | (have z_ := unhid u13_; omega))) (by (first | omega | (have z_ := unhid u13_; omega))) | exact hI5 (by (first | omega | (have z_ := unhid u13_; omega))) (by (first | omega | (have z_ := unhid u13_; omega)))) (by first | exact True.intro | with_reducible assumption | exact unhid (by with_reducible assumption) | rfl | (first | omega | (have z_ := unhid u13_; omega)) | trivial | exact hI4 (by (first | omega | (have z_ := unhid u13_; omega))) (by (first | omega | (have z_ := unhid u13_; omega))) | exact hI5 (by (first | omega | (have z_ := unhid u13_; omega))) (by (first | omega | (have z_ := unhid u13_; omega))))) ?_
                rintro _ _ ⟨dt650, rfl, hI651, hF652, h649⟩
                refine ⟨rfl, ?_⟩
                have hF653 : Fr [79, 80, 82, 83, 84] dt dt650 := Fr_tr hF638 hF652 (by decide)
                have w654 : dt650 79 2 = dt509 79 2 := (hF652 79 (by decide) 2).trans w639
                have w655 : dt650 79 9 = dt509 79 9 := (hF652 79 (by decide) 9).trans w640
                have w656 : dt650 79 10 = dt509 79 10 := (hF652 79 (by decide) 10).trans w641
                have w657 : dt650 79 11 = dt509 79 11 := (hF652 79 (by decide) 11).trans w642
                have w658 : dt650 79 12 = 0 := (hF652 79 (by decide) 12).trans w643
                have w659 : dt650 79 13 = dt509 79 13 := (hF652 79 (by decide) 13).trans w644
                have w660 : dt650 79 14 = dt509 79 14 := (hF652 79 (by decide) 14).trans w645
                have w661 : dt650 79 15 = dt509 79 15 := (hF652 79 (by decide) 15).trans w646
                clear w639 w640 w641 w642 w643 w644 w645 w646
                have E84662 : dt650 84 = dt509 84 := (funext (hF652 84 (by decide))).trans E84647
                rcases h649 with ⟨rfl, h649⟩
                have hM663 : MW (dt650 80) := h649.1
                obtain ⟨h649_0, h649_1, h649_2, h649_3, h649_4, h649_5, h649_6⟩ := h649
                have r664 : 0 ≤ dt650 79 10 ∧ dt650 79 10 ≤ 24 := InvC_get hI651 79 10 rfl rfl
                refine go_retq PM174 (k := 2) (r := some (.inl (dt650 79 10))) (w1 := (SH, dt650)) rfl ?_
                exact ⟨dt650, rfl, hI651, hF653, ⟨_, rfl, (by first | exact bnd r664 (by decide) (by decide) | exact ⟨by (first | omega | (have z_ := unhid u13_; omega)), by (first | omega | (have z_ := unhid u13_; omega))⟩), ⟨by first | exact True.intro | with_reducible assumption | exact unhid (by with_reducible assumption) | rfl | (first | omega | (have z_ := unhid u13_; omega)) | trivial, by first | exact True.intro | with_reducible assumption | exact unhid (by with_reducible assumption) | rfl | (first | omega | (have z_ := unhid u13_; omega)) | trivial, by first | assumption | exact hM, by first | rfl | exact congrFun E80648 0 | exact Eq.trans (by assumption) (congrFun E80648 0), by first | rfl | exact congrFun E80648 1 | exact Eq.trans (by assumption) (congrFun E80648 1), by first | rfl | exact congrFun E80648 2 | exact Eq.trans (by assumption) (congrFun E80648 2), by first | rfl | exact congrFun E80648 3 | exact Eq.trans (by assumption) (congrFun E80648 3), by first | rfl | exact congrFun E80648 4 | exact Eq.trans (by assumption) (congrFun E80648 4), by first | rfl | exact congrFun E80648 5 | exact Eq.trans (by assumption) (congrFun E80648 5)⟩⟩⟩
              · skip
                replace c611 := hid c611
                have u14_ := hid (And.intro (unhid i513) (And.intro (unhid i515) (And.intro (unhid i516) (And.intro (unhid hm1) (And.intro (unhid c523) (unhid c611))))))
                refine go_ifq PM174 (k := 1) (p1 := 97) (p2 := 90) (L' := [some (.inr (.inr (some 79))), some (.inl p1), some (.inl p2), some (.inl 1)]) (st' := []) (w' := (SH, dt509)) rfl (z_ne (a := p1) (by first | exact bnd h_p1 (by decide) (by decide) | exact ⟨by (first | omega | (have z_ := unhid u14_; omega)), by (first | omega | (have z_ := unhid u14_; omega))⟩)) (fun c665 => ?_) (fun c665 => ?_)
                · skip
                  replace c665 := hid c665
                  refine go_toq PM174 (k := 1) (pc' := 98) (L' := [some (.inr (.inr (some 79))), some (.inl p1), some (.inl p2), some (.inl 1)]) (st' := [.inr (.inr (some 79))]) (w' := (SH, dt509)) rfl ?_
                  have u15_ := hid (And.intro (unhid i513) (And.intro (unhid i515) (And.intro (unhid i516) (And.intro (unhid hm1) (And.intro (unhid c523) (And.intro (unhid c611) (unhid c665)))))))
                  refine go_callq PM174 PM173 (Q' := _) rfl rfl rfl rfl (sp_X6_aLine L xs sio (d + 0) dt509 hI510   (by first | exact True.intro | with_reducible assumption | exact unhid (by with_reducible assumption) | rfl | (first | omega | (have z_ := unhid u15_; omega)) | trivial | exact hI4 (by (first | omega | (have z_ := unhid u15_; omega))) (by (first | omega | (have z_ := unhid u15_; omega))) | exact hI5 (by (first | omega | (have z_ := unhid u15_; omega))) (by (first | omega | (have z_ := unhid u15_; omega)))) (by first | exact True.intro | with_reducible assumption | exact unhid (by with_reducible assumption) | rfl | (first | omega | (have z_ := unhid u15_; omega)) | trivial | exact hI4 (by (first | omega | (have z_ := unhid u15_; omega))) (by (first | omega | (have z_ := unhid u15_; omega))) | exact hI5 (by (first | omega | (have z_ := unhid u15_; omega))) (by (first | omega | (have z_ := unhid u15_; omega)))) (by first | exact True.intro | with_reducible assumption | exact unhid (by with_reducible assumption) | rfl | (first | omega | (have z_ := unhid u15_; omega)) | trivial | exact hI4 (by (first | omega | (have z_ := unhid u15_; omega))) (by (first | omega | (have z_ := unhid u15_; omega))) | exact hI5 (by (first | omega | (have z_ := unhid u15_; omega))) (by (first | omega | (have z_ := unhid u15_; omega))))) ?_
                  rintro _ _ ⟨dt667, rfl, hI668, hF669, h666⟩
                  refine ⟨rfl, ?_⟩
                  have hF670 : Fr [79, 80, 82, 83, 84] dt dt667 := Fr_tr hF511 hF669 (by decide)
                  have hM671 : MW (dt667 80) := MW_fr hM_dt509 hF669 (by decide)
                  have E80672 : dt667 80 = dt 80 := (funext (hF669 80 (by decide))).trans hE80
                  rcases h666 with ⟨rfl, h666⟩ | ⟨rfl, h666⟩
                  · skip
                    obtain ⟨h666_0, h666_1, h666_2⟩ := h666
                    have w673 : dt667 79 2 = dt509 79 2 := h666_0
                    have w674 : dt667 79 9 = dt509 79 9 := h666_1
                    have w675 : dt667 79 12 = dt509 79 12 := h666_2
                    clear h666_0 h666_1 h666_2
                    have r676 : 0 ≤ dt667 79 10 ∧ dt667 79 10 ≤ 24 := InvC_get hI668 79 10 rfl rfl
                    refine go_toq PM174 (k := 8) (pc' := 117) (L' := [some (.inr (.inr (some 79))), some (.inl p1), some (.inl p2), some (.inl 0)]) (st' := [.inl ((dt667 79 10) + 0), .inr (.inr (some 79))]) (w' := (SH, dt667)) rfl ?_
                    have hI677 : InvC (u2 dt667 79 10 ((dt667 79 10) + 0)) := InvC_u2 hI668 (lo := 0) (hi := 24) rfl rfl rfl (by (first | omega | (have z_ := unhid u15_; omega))) (by (first | omega | (have z_ := unhid u15_; omega)))
                    have hF678 : Fr [79, 80, 82, 83, 84] dt (u2 dt667 79 10 ((dt667 79 10) + 0)) := Fr_u2 hF670 (by decide)
                    have w679 : (u2 dt667 79 10 ((dt667 79 10) + 0)) 79 2 = dt509 79 2 := w673
                    have w680 : (u2 dt667 79 10 ((dt667 79 10) + 0)) 79 9 = dt509 79 9 := w674
                    have w681 : (u2 dt667 79 10 ((dt667 79 10) + 0)) 79 10 = (dt667 79 10) + 0 := rfl
                    have w682 : (u2 dt667 79 10 ((dt667 79 10) + 0)) 79 11 = dt667 79 11 := rfl
                    have w683 : (u2 dt667 79 10 ((dt667 79 10) + 0)) 79 12 = dt509 79 12 := w675
                    have w684 : (u2 dt667 79 10 ((dt667 79 10) + 0)) 79 13 = dt667 79 13 := rfl
                    have w685 : (u2 dt667 79 10 ((dt667 79 10) + 0)) 79 14 = dt667 79 14 := rfl
                    have w686 : (u2 dt667 79 10 ((dt667 79 10) + 0)) 79 15 = dt667 79 15 := rfl
                    have E84687 : (u2 dt667 79 10 ((dt667 79 10) + 0)) 84 = dt667 84 := funext fun _ => rfl
                    have E80688 : (u2 dt667 79 10 ((dt667 79 10) + 0)) 80 = dt 80 := (funext fun _ => u2_ne (fun z => absurd z.1 (by decide))).trans E80672
                    refine go_smpq PM174 (L' := [some (.inr (.inr (some 79))), some (.inl p1), some (.inl p2), some (.inl 0)]) (st' := []) (w' := (SH, (u2 dt667 79 10 ((dt667 79 10) + 0)))) rfl rfl (s_pf rfl rfl rfl rfl (by first | exact bndp r676 (by decide) (by decide) | exact ⟨by (first | omega | (have z_ := unhid u15_; omega)), by (first | omega | (have z_ := unhid u15_; omega))⟩)) ?_
                    refine go_toq PM174 (k := 1) (pc' := 75) (L' := [some (.inr (.inr (some 79))), some (.inl p1), some (.inl p2), some (.inl 0)]) (st' := []) (w' := (SH, (u2 dt667 79 10 ((dt667 79 10) + 0)))) rfl ?_
                    exact GO.le (ih_loop522 0 (u2 dt667 79 10 ((dt667 79 10) + 0)) hI677 hF678 hM671 ⟨by decide, by decide⟩ (by (first | omega | (have z_ := unhid u15_; omega))) (by first | with_reducible assumption | exact unhid (by with_reducible assumption) | (first | omega | (have z_ := unhid u15_; omega)) | exact (InvC_get (by assumption) 79 15 rfl rfl).2) (by (first | omega | (have z_ := unhid u15_; omega))) (by (first | omega | (have z_ := unhid u15_; omega))) (by intro _ hz; first | (first | omega | (have z_ := unhid u15_; omega)) | exact ARW_0 (by (first | omega | (have z_ := unhid u15_; omega))) | exact ARW_s (hI4 (by (first | omega | (have z_ := unhid u15_; omega))) hz) (by (first | omega | (have z_ := unhid u15_; omega))) (by assumption) (by assumption) (by (first | omega | (have z_ := unhid u15_; omega)))) (by intro _ hz; first | (first | omega | (have z_ := unhid u15_; omega)) | exact LRW_0 (by (first | omega | (have z_ := unhid u15_; omega))) | exact LRW_s (hI5 (by (first | omega | (have z_ := unhid u15_; omega))) hz) (by (first | omega | (have z_ := unhid u15_; omega))) (by assumption) (by assumption) (by assumption) (by (first | omega | (have z_ := unhid u15_; omega))) (by (first | omega | (have z_ := unhid u15_; omega)))) (by (first | omega | (have z_ := unhid u15_; omega))) (by (first | omega | (have z_ := unhid u15_; omega))) (by exact E80688) (by (first | omega | (have z_ := unhid u15_; omega)))) ⟨.inl rfl, .inl rfl, .inl rfl, .inl rfl, trivial⟩
                  · skip
                    obtain ⟨h666_0, h666_1, h666_2, h666_3, h666_4, h666_5, h666_6, h666_7, h666_8, h666_9, h666_10, h666_11, h666_12⟩ := h666
                    have w689 : dt667 79 2 = dt509 79 2 := h666_9
                    have w690 : dt667 79 9 = dt509 79 9 := h666_10
                    have w691 : dt667 79 10 = dt509 79 10 := h666_11
                    have w692 : dt667 79 12 = dt509 79 12 := h666_12
                    clear h666_9 h666_10 h666_11 h666_12
                    have r693 : 0 ≤ dt667 79 10 ∧ dt667 79 10 ≤ 24 := InvC_get hI668 79 10 rfl rfl
                    refine go_toq PM174 (k := 9) (pc' := 117) (L' := [some (.inr (.inr (some 79))), some (.inl p1), some (.inl p2), some (.inl 1)]) (st' := [.inl ((dt667 79 10) + 1), .inr (.inr (some 79))]) (w' := (SH, dt667)) rfl ?_
                    have hI694 : InvC (u2 dt667 79 10 ((dt667 79 10) + 1)) := InvC_u2 hI668 (lo := 0) (hi := 24) rfl rfl rfl (by (first | omega | (have z_ := unhid u15_; omega))) (by (first | omega | (have z_ := unhid u15_; omega)))
                    have hF695 : Fr [79, 80, 82, 83, 84] dt (u2 dt667 79 10 ((dt667 79 10) + 1)) := Fr_u2 hF670 (by decide)
                    have w696 : (u2 dt667 79 10 ((dt667 79 10) + 1)) 79 2 = dt509 79 2 := w689
                    have w697 : (u2 dt667 79 10 ((dt667 79 10) + 1)) 79 9 = dt509 79 9 := w690
                    have w698 : (u2 dt667 79 10 ((dt667 79 10) + 1)) 79 10 = (dt667 79 10) + 1 := rfl
                    have w699 : (u2 dt667 79 10 ((dt667 79 10) + 1)) 79 11 = dt667 79 11 := rfl
                    have w700 : (u2 dt667 79 10 ((dt667 79 10) + 1)) 79 12 = dt509 79 12 := w692
                    have w701 : (u2 dt667 79 10 ((dt667 79 10) + 1)) 79 13 = dt667 79 13 := rfl
                    have w702 : (u2 dt667 79 10 ((dt667 79 10) + 1)) 79 14 = dt667 79 14 := rfl
                    have w703 : (u2 dt667 79 10 ((dt667 79 10) + 1)) 79 15 = dt667 79 15 := rfl
                    have E84704 : (u2 dt667 79 10 ((dt667 79 10) + 1)) 84 = dt667 84 := funext fun _ => rfl
                    have E80705 : (u2 dt667 79 10 ((dt667 79 10) + 1)) 80 = dt 80 := (funext fun _ => u2_ne (fun z => absurd z.1 (by decide))).trans E80672
                    refine go_smpq PM174 (L' := [some (.inr (.inr (some 79))), some (.inl p1), some (.inl p2), some (.inl 1)]) (st' := []) (w' := (SH, (u2 dt667 79 10 ((dt667 79 10) + 1)))) rfl rfl (s_pf rfl rfl rfl rfl (by first | exact bndp r693 (by decide) (by decide) | exact ⟨by (first | omega | (have z_ := unhid u15_; omega)), by (first | omega | (have z_ := unhid u15_; omega))⟩)) ?_
                    refine go_toq PM174 (k := 1) (pc' := 75) (L' := [some (.inr (.inr (some 79))), some (.inl p1), some (.inl p2), some (.inl 1)]) (st' := []) (w' := (SH, (u2 dt667 79 10 ((dt667 79 10) + 1)))) rfl ?_
                    exact GO.le (ih_loop522 1 (u2 dt667 79 10 ((dt667 79 10) + 1)) hI694 hF695 hM671 ⟨by decide, by decide⟩ (by (first | omega | (have z_ := unhid u15_; omega))) (by first | with_reducible assumption | exact unhid (by with_reducible assumption) | (first | omega | (have z_ := unhid u15_; omega)) | exact (InvC_get (by assumption) 79 15 rfl rfl).2) (by (first | omega | (have z_ := unhid u15_; omega))) (by (first | omega | (have z_ := unhid u15_; omega))) (by intro _ hz; first | (first | omega | (have z_ := unhid u15_; omega)) | exact ARW_0 (by (first | omega | (have z_ := unhid u15_; omega))) | exact ARW_s (hI4 (by (first | omega | (have z_ := unhid u15_; omega))) hz) (by (first | omega | (have z_ := unhid u15_; omega))) (by assumption) (by assumption) (by (first | omega | (have z_ := unhid u15_; omega)))) (by intro _ hz; first | (first | omega | (have z_ := unhid u15_; omega)) | exact LRW_0 (by (first | omega | (have z_ := unhid u15_; omega))) | exact LRW_s (hI5 (by (first | omega | (have z_ := unhid u15_; omega))) hz) (by (first | omega | (have z_ := unhid u15_; omega))) (by assumption) (by assumption) (by assumption) (by (first | omega | (have z_ := unhid u15_; omega))) (by (first | omega | (have z_ := unhid u15_; omega)))) (by (first | omega | (have z_ := unhid u15_; omega))) (by (first | omega | (have z_ := unhid u15_; omega))) (by exact E80705) (by (first | omega | (have z_ := unhid u15_; omega)))) ⟨.inl rfl, .inl rfl, .inl rfl, .inl rfl, trivial⟩
                · skip
                  refine go_toq PM174 (k := 1) (pc' := 91) (L' := [some (.inr (.inr (some 79))), some (.inl p1), some (.inl p2), some (.inl 1)]) (st' := [.inr (.inr (some 79))]) (w' := (SH, dt509)) rfl ?_
                  refine go_callq PM174 PM172 (Q' := _) rfl rfl rfl rfl (sp_X6_anAct L xs sio (d + 28) dt509 hI510   (by first | exact True.intro | with_reducible assumption | exact unhid (by with_reducible assumption) | rfl | (first | omega | (have z_ := unhid u14_; omega)) | trivial | exact hI4 (by (first | omega | (have z_ := unhid u14_; omega))) (by (first | omega | (have z_ := unhid u14_; omega))) | exact hI5 (by (first | omega | (have z_ := unhid u14_; omega))) (by (first | omega | (have z_ := unhid u14_; omega))))) ?_
                  rintro _ _ ⟨dt707, rfl, hI708, hF709, h706⟩
                  refine ⟨rfl, ?_⟩
                  have hF710 : Fr [79, 80, 82, 83, 84] dt dt707 := Fr_tr hF511 hF709 (by decide)
                  have hM711 : MW (dt707 80) := MW_fr hM_dt509 hF709 (by decide)
                  have E80712 : dt707 80 = dt 80 := (funext (hF709 80 (by decide))).trans hE80
                  have E84713 : dt707 84 = dt509 84 := funext (hF709 84 (by decide))
                  rcases h706 with ⟨rfl, h706⟩ | ⟨rfl, h706⟩
                  · skip
                    obtain ⟨h706_0, h706_1, h706_2⟩ := h706
                    have w714 : dt707 79 2 = dt509 79 2 := h706_0
                    have w715 : dt707 79 9 = dt509 79 9 := h706_1
                    have w716 : dt707 79 12 = dt509 79 12 := h706_2
                    clear h706_0 h706_1 h706_2
                    have r717 : 0 ≤ dt707 79 10 ∧ dt707 79 10 ≤ 24 := InvC_get hI708 79 10 rfl rfl
                    refine go_toq PM174 (k := 9) (pc' := 117) (L' := [some (.inr (.inr (some 79))), some (.inl p1), some (.inl p2), some (.inl 0)]) (st' := [.inl ((dt707 79 10) + 0), .inr (.inr (some 79))]) (w' := (SH, dt707)) rfl ?_
                    have hI718 : InvC (u2 dt707 79 10 ((dt707 79 10) + 0)) := InvC_u2 hI708 (lo := 0) (hi := 24) rfl rfl rfl (by (first | omega | (have z_ := unhid u14_; omega))) (by (first | omega | (have z_ := unhid u14_; omega)))
                    have hF719 : Fr [79, 80, 82, 83, 84] dt (u2 dt707 79 10 ((dt707 79 10) + 0)) := Fr_u2 hF710 (by decide)
                    have w720 : (u2 dt707 79 10 ((dt707 79 10) + 0)) 79 2 = dt509 79 2 := w714
                    have w721 : (u2 dt707 79 10 ((dt707 79 10) + 0)) 79 9 = dt509 79 9 := w715
                    have w722 : (u2 dt707 79 10 ((dt707 79 10) + 0)) 79 10 = (dt707 79 10) + 0 := rfl
                    have w723 : (u2 dt707 79 10 ((dt707 79 10) + 0)) 79 11 = dt707 79 11 := rfl
                    have w724 : (u2 dt707 79 10 ((dt707 79 10) + 0)) 79 12 = dt509 79 12 := w716
                    have w725 : (u2 dt707 79 10 ((dt707 79 10) + 0)) 79 13 = dt707 79 13 := rfl
                    have w726 : (u2 dt707 79 10 ((dt707 79 10) + 0)) 79 14 = dt707 79 14 := rfl
                    have w727 : (u2 dt707 79 10 ((dt707 79 10) + 0)) 79 15 = dt707 79 15 := rfl
                    have E84728 : (u2 dt707 79 10 ((dt707 79 10) + 0)) 84 = dt509 84 := (funext fun _ => rfl).trans E84713
                    have E80729 : (u2 dt707 79 10 ((dt707 79 10) + 0)) 80 = dt 80 := (funext fun _ => u2_ne (fun z => absurd z.1 (by decide))).trans E80712
                    refine go_smpq PM174 (L' := [some (.inr (.inr (some 79))), some (.inl p1), some (.inl p2), some (.inl 0)]) (st' := []) (w' := (SH, (u2 dt707 79 10 ((dt707 79 10) + 0)))) rfl rfl (s_pf rfl rfl rfl rfl (by first | exact bndp r717 (by decide) (by decide) | exact ⟨by (first | omega | (have z_ := unhid u14_; omega)), by (first | omega | (have z_ := unhid u14_; omega))⟩)) ?_
                    refine go_toq PM174 (k := 1) (pc' := 75) (L' := [some (.inr (.inr (some 79))), some (.inl p1), some (.inl p2), some (.inl 0)]) (st' := []) (w' := (SH, (u2 dt707 79 10 ((dt707 79 10) + 0)))) rfl ?_
                    exact GO.le (ih_loop522 0 (u2 dt707 79 10 ((dt707 79 10) + 0)) hI718 hF719 hM711 ⟨by decide, by decide⟩ (by (first | omega | (have z_ := unhid u14_; omega))) (by first | with_reducible assumption | exact unhid (by with_reducible assumption) | (first | omega | (have z_ := unhid u14_; omega)) | exact (InvC_get (by assumption) 79 15 rfl rfl).2) (by (first | omega | (have z_ := unhid u14_; omega))) (by (first | omega | (have z_ := unhid u14_; omega))) (by intro _ hz; first | (first | omega | (have z_ := unhid u14_; omega)) | exact ARW_0 (by (first | omega | (have z_ := unhid u14_; omega))) | exact ARW_s (hI4 (by (first | omega | (have z_ := unhid u14_; omega))) hz) (by (first | omega | (have z_ := unhid u14_; omega))) (by assumption) (by assumption) (by (first | omega | (have z_ := unhid u14_; omega)))) (by intro _ hz; first | (first | omega | (have z_ := unhid u14_; omega)) | exact LRW_0 (by (first | omega | (have z_ := unhid u14_; omega))) | exact LRW_s (hI5 (by (first | omega | (have z_ := unhid u14_; omega))) hz) (by (first | omega | (have z_ := unhid u14_; omega))) (by assumption) (by assumption) (by assumption) (by (first | omega | (have z_ := unhid u14_; omega))) (by (first | omega | (have z_ := unhid u14_; omega)))) (by (first | omega | (have z_ := unhid u14_; omega))) (by (first | omega | (have z_ := unhid u14_; omega))) (by exact E80729) (by (first | omega | (have z_ := unhid u14_; omega)))) ⟨.inl rfl, .inl rfl, .inl rfl, .inl rfl, trivial⟩
                  · skip
                    obtain ⟨h706_0, h706_1, h706_2, h706_3, h706_4, h706_5, h706_6, h706_7, h706_8, h706_9, h706_10⟩ := h706
                    have w730 : dt707 79 2 = dt509 79 2 := h706_6
                    have w731 : dt707 79 9 = dt509 79 9 := h706_7
                    have w732 : dt707 79 10 = dt509 79 10 := h706_8
                    have w733 : dt707 79 11 = dt509 79 11 := h706_9
                    have w734 : dt707 79 12 = dt509 79 12 := h706_10
                    clear h706_6 h706_7 h706_8 h706_9 h706_10
                    have r735 : 0 ≤ dt707 79 10 ∧ dt707 79 10 ≤ 24 := InvC_get hI708 79 10 rfl rfl
                    refine go_toq PM174 (k := 10) (pc' := 117) (L' := [some (.inr (.inr (some 79))), some (.inl p1), some (.inl p2), some (.inl 1)]) (st' := [.inl ((dt707 79 10) + 1), .inr (.inr (some 79))]) (w' := (SH, dt707)) rfl ?_
                    have hI736 : InvC (u2 dt707 79 10 ((dt707 79 10) + 1)) := InvC_u2 hI708 (lo := 0) (hi := 24) rfl rfl rfl (by (first | omega | (have z_ := unhid u14_; omega))) (by (first | omega | (have z_ := unhid u14_; omega)))
                    have hF737 : Fr [79, 80, 82, 83, 84] dt (u2 dt707 79 10 ((dt707 79 10) + 1)) := Fr_u2 hF710 (by decide)
                    have w738 : (u2 dt707 79 10 ((dt707 79 10) + 1)) 79 2 = dt509 79 2 := w730
                    have w739 : (u2 dt707 79 10 ((dt707 79 10) + 1)) 79 9 = dt509 79 9 := w731
                    have w740 : (u2 dt707 79 10 ((dt707 79 10) + 1)) 79 10 = (dt707 79 10) + 1 := rfl
                    have w741 : (u2 dt707 79 10 ((dt707 79 10) + 1)) 79 11 = dt509 79 11 := w733
                    have w742 : (u2 dt707 79 10 ((dt707 79 10) + 1)) 79 12 = dt509 79 12 := w734
                    have w743 : (u2 dt707 79 10 ((dt707 79 10) + 1)) 79 13 = dt707 79 13 := rfl
                    have w744 : (u2 dt707 79 10 ((dt707 79 10) + 1)) 79 14 = dt707 79 14 := rfl
                    have w745 : (u2 dt707 79 10 ((dt707 79 10) + 1)) 79 15 = dt707 79 15 := rfl
                    have E84746 : (u2 dt707 79 10 ((dt707 79 10) + 1)) 84 = dt509 84 := (funext fun _ => rfl).trans E84713
                    have E80747 : (u2 dt707 79 10 ((dt707 79 10) + 1)) 80 = dt 80 := (funext fun _ => u2_ne (fun z => absurd z.1 (by decide))).trans E80712
                    refine go_smpq PM174 (L' := [some (.inr (.inr (some 79))), some (.inl p1), some (.inl p2), some (.inl 1)]) (st' := []) (w' := (SH, (u2 dt707 79 10 ((dt707 79 10) + 1)))) rfl rfl (s_pf rfl rfl rfl rfl (by first | exact bndp r735 (by decide) (by decide) | exact ⟨by (first | omega | (have z_ := unhid u14_; omega)), by (first | omega | (have z_ := unhid u14_; omega))⟩)) ?_
                    refine go_toq PM174 (k := 1) (pc' := 75) (L' := [some (.inr (.inr (some 79))), some (.inl p1), some (.inl p2), some (.inl 1)]) (st' := []) (w' := (SH, (u2 dt707 79 10 ((dt707 79 10) + 1)))) rfl ?_
                    exact GO.le (ih_loop522 1 (u2 dt707 79 10 ((dt707 79 10) + 1)) hI736 hF737 hM711 ⟨by decide, by decide⟩ (by (first | omega | (have z_ := unhid u14_; omega))) (by first | with_reducible assumption | exact unhid (by with_reducible assumption) | (first | omega | (have z_ := unhid u14_; omega)) | exact (InvC_get (by assumption) 79 15 rfl rfl).2) (by (first | omega | (have z_ := unhid u14_; omega))) (by (first | omega | (have z_ := unhid u14_; omega))) (by intro _ hz; first | (first | omega | (have z_ := unhid u14_; omega)) | exact ARW_0 (by (first | omega | (have z_ := unhid u14_; omega))) | exact ARW_s (hI4 (by (first | omega | (have z_ := unhid u14_; omega))) hz) (by (first | omega | (have z_ := unhid u14_; omega))) (by assumption) (by assumption) (by (first | omega | (have z_ := unhid u14_; omega)))) (by intro _ hz; first | (first | omega | (have z_ := unhid u14_; omega)) | exact LRW_0 (by (first | omega | (have z_ := unhid u14_; omega))) | exact LRW_s (hI5 (by (first | omega | (have z_ := unhid u14_; omega))) hz) (by (first | omega | (have z_ := unhid u14_; omega))) (by assumption) (by assumption) (by assumption) (by (first | omega | (have z_ := unhid u14_; omega))) (by (first | omega | (have z_ := unhid u14_; omega)))) (by (first | omega | (have z_ := unhid u14_; omega))) (by (first | omega | (have z_ := unhid u14_; omega))) (by exact E80747) (by (first | omega | (have z_ := unhid u14_; omega)))) ⟨.inl rfl, .inl rfl, .inl rfl, .inl rfl, trivial⟩
        exact GO.le (loop522 _ 1 dt409 hI410 hF412 hM413 ⟨by decide, by decide⟩ (by omega) (by first | with_reducible assumption | omega | exact (InvC_get (by assumption) 79 15 rfl rfl).2) (by omega) (by omega) (by intro _ hz; first | omega | exact ARW_0 (by omega) | exact ARW_s (hI4 (by omega) hz) (by omega) (by assumption) (by assumption) (by omega)) (by intro _ hz; first | omega | exact LRW_0 (by omega) | exact LRW_s (hI5 (by omega) hz) (by omega) (by assumption) (by assumption) (by assumption) (by omega) (by omega)) (by omega) (by omega) (by exact E80414) (Nat.lt_succ_self _)) ⟨.inl rfl, .inl rfl, .inl rfl, .inl rfl, trivial⟩
      · skip
        refine go_toq PM174 (k := 3) (pc' := 34) (L' := [some (.inr (.inr (some 79))), some (.inl p1), some (.inl p2), none]) (st' := [.inl 0, .inr (.inr (some 79))]) (w' := (SH, (u2 dt 79 17 0))) rfl ?_
        have hI748 : InvC (u2 (u2 dt 79 17 0) 79 12 0) := InvC_u2 hI4 (lo := 0) (hi := 500) rfl rfl rfl (by decide) (by decide)
        have hF749 : Fr [79, 80, 82, 83, 84] dt (u2 (u2 dt 79 17 0) 79 12 0) := Fr_u2 hF5 (by decide)
        have w750 : (u2 (u2 dt 79 17 0) 79 12 0) 79 2 = dt 79 2 := w6
        have w751 : (u2 (u2 dt 79 17 0) 79 12 0) 79 9 = dt 79 9 := w7
        have w752 : (u2 (u2 dt 79 17 0) 79 12 0) 79 10 = dt 79 10 := w8
        have w753 : (u2 (u2 dt 79 17 0) 79 12 0) 79 11 = dt 79 11 := w9
        have w754 : (u2 (u2 dt 79 17 0) 79 12 0) 79 12 = 0 := rfl
        have w755 : (u2 (u2 dt 79 17 0) 79 12 0) 79 13 = dt 79 13 := w11
        have w756 : (u2 (u2 dt 79 17 0) 79 12 0) 79 14 = dt 79 14 := w12
        have w757 : (u2 (u2 dt 79 17 0) 79 12 0) 79 15 = dt 79 15 := w13
        clear w6 w7 w8 w9 w10 w11 w12 w13
        have E84758 : (u2 (u2 dt 79 17 0) 79 12 0) 84 = dt 84 := (funext fun _ => rfl).trans E8414
        have E80759 : (u2 (u2 dt 79 17 0) 79 12 0) 80 = dt 80 := (funext fun _ => u2_ne (fun z => absurd z.1 (by decide))).trans E8015
        refine go_smpq PM174 (L' := [some (.inr (.inr (some 79))), some (.inl p1), some (.inl p2), none]) (st' := []) (w' := (SH, (u2 (u2 dt 79 17 0) 79 12 0))) rfl rfl (s_pf rfl rfl rfl rfl ⟨by decide, by decide⟩) ?_
        refine go_toq PM174 (k := 2) (pc' := 39) (L' := [some (.inr (.inr (some 79))), some (.inl p1), some (.inl p2), none]) (st' := [.inl 0, .inr (.inr (some 79))]) (w' := (SH, (u2 (u2 dt 79 17 0) 79 12 0))) rfl ?_
        have hI760 : InvC (u2 (u2 (u2 dt 79 17 0) 79 12 0) 79 19 0) := InvC_u2 hI748 (lo := -2147483648) (hi := 2147483647) rfl rfl rfl (by decide) (by decide)
        have hF761 : Fr [79, 80, 82, 83, 84] dt (u2 (u2 (u2 dt 79 17 0) 79 12 0) 79 19 0) := Fr_u2 hF749 (by decide)
        have w762 : (u2 (u2 (u2 dt 79 17 0) 79 12 0) 79 19 0) 79 2 = dt 79 2 := w750
        have w763 : (u2 (u2 (u2 dt 79 17 0) 79 12 0) 79 19 0) 79 9 = dt 79 9 := w751
        have w764 : (u2 (u2 (u2 dt 79 17 0) 79 12 0) 79 19 0) 79 10 = dt 79 10 := w752
        have w765 : (u2 (u2 (u2 dt 79 17 0) 79 12 0) 79 19 0) 79 11 = dt 79 11 := w753
        have w766 : (u2 (u2 (u2 dt 79 17 0) 79 12 0) 79 19 0) 79 12 = 0 := w754
        have w767 : (u2 (u2 (u2 dt 79 17 0) 79 12 0) 79 19 0) 79 13 = dt 79 13 := w755
        have w768 : (u2 (u2 (u2 dt 79 17 0) 79 12 0) 79 19 0) 79 14 = dt 79 14 := w756
        have w769 : (u2 (u2 (u2 dt 79 17 0) 79 12 0) 79 19 0) 79 15 = dt 79 15 := w757
        clear w750 w751 w752 w753 w754 w755 w756 w757
        have E84770 : (u2 (u2 (u2 dt 79 17 0) 79 12 0) 79 19 0) 84 = dt 84 := (funext fun _ => rfl).trans E84758
        have E80771 : (u2 (u2 (u2 dt 79 17 0) 79 12 0) 79 19 0) 80 = dt 80 := (funext fun _ => u2_ne (fun z => absurd z.1 (by decide))).trans E80759
        refine go_smpq PM174 (L' := [some (.inr (.inr (some 79))), some (.inl p1), some (.inl p2), none]) (st' := []) (w' := (SH, (u2 (u2 (u2 dt 79 17 0) 79 12 0) 79 19 0))) rfl rfl (s_pf rfl rfl rfl rfl ⟨by decide, by decide⟩) ?_
        refine go_toq PM174 (k := 2) (pc' := 44) (L' := [some (.inr (.inr (some 79))), some (.inl p1), some (.inl p2), none]) (st' := [.inl (-1), .inr (.inr (some 79))]) (w' := (SH, (u2 (u2 (u2 dt 79 17 0) 79 12 0) 79 19 0))) rfl ?_
        have hI772 : InvC (u2 (u2 (u2 (u2 dt 79 17 0) 79 12 0) 79 19 0) 79 21 (-1)) := InvC_u2 hI760 (lo := -2147483648) (hi := 2147483647) rfl rfl rfl (by decide) (by decide)
        have hF773 : Fr [79, 80, 82, 83, 84] dt (u2 (u2 (u2 (u2 dt 79 17 0) 79 12 0) 79 19 0) 79 21 (-1)) := Fr_u2 hF761 (by decide)
        have w774 : (u2 (u2 (u2 (u2 dt 79 17 0) 79 12 0) 79 19 0) 79 21 (-1)) 79 2 = dt 79 2 := w762
        have w775 : (u2 (u2 (u2 (u2 dt 79 17 0) 79 12 0) 79 19 0) 79 21 (-1)) 79 9 = dt 79 9 := w763
        have w776 : (u2 (u2 (u2 (u2 dt 79 17 0) 79 12 0) 79 19 0) 79 21 (-1)) 79 10 = dt 79 10 := w764
        have w777 : (u2 (u2 (u2 (u2 dt 79 17 0) 79 12 0) 79 19 0) 79 21 (-1)) 79 11 = dt 79 11 := w765
        have w778 : (u2 (u2 (u2 (u2 dt 79 17 0) 79 12 0) 79 19 0) 79 21 (-1)) 79 12 = 0 := w766
        have w779 : (u2 (u2 (u2 (u2 dt 79 17 0) 79 12 0) 79 19 0) 79 21 (-1)) 79 13 = dt 79 13 := w767
        have w780 : (u2 (u2 (u2 (u2 dt 79 17 0) 79 12 0) 79 19 0) 79 21 (-1)) 79 14 = dt 79 14 := w768
        have w781 : (u2 (u2 (u2 (u2 dt 79 17 0) 79 12 0) 79 19 0) 79 21 (-1)) 79 15 = dt 79 15 := w769
        clear w762 w763 w764 w765 w766 w767 w768 w769
        have E84782 : (u2 (u2 (u2 (u2 dt 79 17 0) 79 12 0) 79 19 0) 79 21 (-1)) 84 = dt 84 := (funext fun _ => rfl).trans E84770
        have E80783 : (u2 (u2 (u2 (u2 dt 79 17 0) 79 12 0) 79 19 0) 79 21 (-1)) 80 = dt 80 := (funext fun _ => u2_ne (fun z => absurd z.1 (by decide))).trans E80771
        refine go_smpq PM174 (L' := [some (.inr (.inr (some 79))), some (.inl p1), some (.inl p2), none]) (st' := []) (w' := (SH, (u2 (u2 (u2 (u2 dt 79 17 0) 79 12 0) 79 19 0) 79 21 (-1)))) rfl rfl (s_pf rfl rfl rfl rfl ⟨by decide, by decide⟩) ?_
        refine go_retq PM174 (k := 1) (r := some (.inl (-1))) (w1 := (SH, (u2 (u2 (u2 (u2 dt 79 17 0) 79 12 0) 79 19 0) 79 21 (-1)))) rfl ?_
        exact ⟨(u2 (u2 (u2 (u2 dt 79 17 0) 79 12 0) 79 19 0) 79 21 (-1)), rfl, hI772, hF773, ⟨_, rfl, ⟨by decide, by decide⟩, ⟨by first | exact True.intro | with_reducible assumption | rfl | omega | trivial, by first | exact True.intro | with_reducible assumption | rfl | omega | trivial, by first | assumption | exact hM, by first | rfl | exact congrFun E80783 0 | exact Eq.trans (by assumption) (congrFun E80783 0), by first | rfl | exact congrFun E80783 1 | exact Eq.trans (by assumption) (congrFun E80783 1), by first | rfl | exact congrFun E80783 2 | exact Eq.trans (by assumption) (congrFun E80783 2), by first | rfl | exact congrFun E80783 3 | exact Eq.trans (by assumption) (congrFun E80783 3), by first | rfl | exact congrFun E80783 4 | exact Eq.trans (by assumption) (congrFun E80783 4), by first | rfl | exact congrFun E80783 5 | exact Eq.trans (by assumption) (congrFun E80783 5)⟩⟩⟩
  · skip
    refine go_toq PM174 (k := 3) (pc' := 34) (L' := [some (.inr (.inr (some 79))), some (.inl p1), some (.inl p2), none]) (st' := [.inl 0, .inr (.inr (some 79))]) (w' := (SH, (u2 dt 79 17 0))) rfl ?_
    have hI784 : InvC (u2 (u2 dt 79 17 0) 79 12 0) := InvC_u2 hI4 (lo := 0) (hi := 500) rfl rfl rfl (by decide) (by decide)
    have hF785 : Fr [79, 80, 82, 83, 84] dt (u2 (u2 dt 79 17 0) 79 12 0) := Fr_u2 hF5 (by decide)
    have w786 : (u2 (u2 dt 79 17 0) 79 12 0) 79 2 = dt 79 2 := w6
    have w787 : (u2 (u2 dt 79 17 0) 79 12 0) 79 9 = dt 79 9 := w7
    have w788 : (u2 (u2 dt 79 17 0) 79 12 0) 79 10 = dt 79 10 := w8
    have w789 : (u2 (u2 dt 79 17 0) 79 12 0) 79 11 = dt 79 11 := w9
    have w790 : (u2 (u2 dt 79 17 0) 79 12 0) 79 12 = 0 := rfl
    have w791 : (u2 (u2 dt 79 17 0) 79 12 0) 79 13 = dt 79 13 := w11
    have w792 : (u2 (u2 dt 79 17 0) 79 12 0) 79 14 = dt 79 14 := w12
    have w793 : (u2 (u2 dt 79 17 0) 79 12 0) 79 15 = dt 79 15 := w13
    clear w6 w7 w8 w9 w10 w11 w12 w13
    have E84794 : (u2 (u2 dt 79 17 0) 79 12 0) 84 = dt 84 := (funext fun _ => rfl).trans E8414
    have E80795 : (u2 (u2 dt 79 17 0) 79 12 0) 80 = dt 80 := (funext fun _ => u2_ne (fun z => absurd z.1 (by decide))).trans E8015
    refine go_smpq PM174 (L' := [some (.inr (.inr (some 79))), some (.inl p1), some (.inl p2), none]) (st' := []) (w' := (SH, (u2 (u2 dt 79 17 0) 79 12 0))) rfl rfl (s_pf rfl rfl rfl rfl ⟨by decide, by decide⟩) ?_
    refine go_toq PM174 (k := 2) (pc' := 39) (L' := [some (.inr (.inr (some 79))), some (.inl p1), some (.inl p2), none]) (st' := [.inl 0, .inr (.inr (some 79))]) (w' := (SH, (u2 (u2 dt 79 17 0) 79 12 0))) rfl ?_
    have hI796 : InvC (u2 (u2 (u2 dt 79 17 0) 79 12 0) 79 19 0) := InvC_u2 hI784 (lo := -2147483648) (hi := 2147483647) rfl rfl rfl (by decide) (by decide)
    have hF797 : Fr [79, 80, 82, 83, 84] dt (u2 (u2 (u2 dt 79 17 0) 79 12 0) 79 19 0) := Fr_u2 hF785 (by decide)
    have w798 : (u2 (u2 (u2 dt 79 17 0) 79 12 0) 79 19 0) 79 2 = dt 79 2 := w786
    have w799 : (u2 (u2 (u2 dt 79 17 0) 79 12 0) 79 19 0) 79 9 = dt 79 9 := w787
    have w800 : (u2 (u2 (u2 dt 79 17 0) 79 12 0) 79 19 0) 79 10 = dt 79 10 := w788
    have w801 : (u2 (u2 (u2 dt 79 17 0) 79 12 0) 79 19 0) 79 11 = dt 79 11 := w789
    have w802 : (u2 (u2 (u2 dt 79 17 0) 79 12 0) 79 19 0) 79 12 = 0 := w790
    have w803 : (u2 (u2 (u2 dt 79 17 0) 79 12 0) 79 19 0) 79 13 = dt 79 13 := w791
    have w804 : (u2 (u2 (u2 dt 79 17 0) 79 12 0) 79 19 0) 79 14 = dt 79 14 := w792
    have w805 : (u2 (u2 (u2 dt 79 17 0) 79 12 0) 79 19 0) 79 15 = dt 79 15 := w793
    clear w786 w787 w788 w789 w790 w791 w792 w793
    have E84806 : (u2 (u2 (u2 dt 79 17 0) 79 12 0) 79 19 0) 84 = dt 84 := (funext fun _ => rfl).trans E84794
    have E80807 : (u2 (u2 (u2 dt 79 17 0) 79 12 0) 79 19 0) 80 = dt 80 := (funext fun _ => u2_ne (fun z => absurd z.1 (by decide))).trans E80795
    refine go_smpq PM174 (L' := [some (.inr (.inr (some 79))), some (.inl p1), some (.inl p2), none]) (st' := []) (w' := (SH, (u2 (u2 (u2 dt 79 17 0) 79 12 0) 79 19 0))) rfl rfl (s_pf rfl rfl rfl rfl ⟨by decide, by decide⟩) ?_
    refine go_toq PM174 (k := 2) (pc' := 44) (L' := [some (.inr (.inr (some 79))), some (.inl p1), some (.inl p2), none]) (st' := [.inl (-1), .inr (.inr (some 79))]) (w' := (SH, (u2 (u2 (u2 dt 79 17 0) 79 12 0) 79 19 0))) rfl ?_
    have hI808 : InvC (u2 (u2 (u2 (u2 dt 79 17 0) 79 12 0) 79 19 0) 79 21 (-1)) := InvC_u2 hI796 (lo := -2147483648) (hi := 2147483647) rfl rfl rfl (by decide) (by decide)
    have hF809 : Fr [79, 80, 82, 83, 84] dt (u2 (u2 (u2 (u2 dt 79 17 0) 79 12 0) 79 19 0) 79 21 (-1)) := Fr_u2 hF797 (by decide)
    have w810 : (u2 (u2 (u2 (u2 dt 79 17 0) 79 12 0) 79 19 0) 79 21 (-1)) 79 2 = dt 79 2 := w798
    have w811 : (u2 (u2 (u2 (u2 dt 79 17 0) 79 12 0) 79 19 0) 79 21 (-1)) 79 9 = dt 79 9 := w799
    have w812 : (u2 (u2 (u2 (u2 dt 79 17 0) 79 12 0) 79 19 0) 79 21 (-1)) 79 10 = dt 79 10 := w800
    have w813 : (u2 (u2 (u2 (u2 dt 79 17 0) 79 12 0) 79 19 0) 79 21 (-1)) 79 11 = dt 79 11 := w801
    have w814 : (u2 (u2 (u2 (u2 dt 79 17 0) 79 12 0) 79 19 0) 79 21 (-1)) 79 12 = 0 := w802
    have w815 : (u2 (u2 (u2 (u2 dt 79 17 0) 79 12 0) 79 19 0) 79 21 (-1)) 79 13 = dt 79 13 := w803
    have w816 : (u2 (u2 (u2 (u2 dt 79 17 0) 79 12 0) 79 19 0) 79 21 (-1)) 79 14 = dt 79 14 := w804
    have w817 : (u2 (u2 (u2 (u2 dt 79 17 0) 79 12 0) 79 19 0) 79 21 (-1)) 79 15 = dt 79 15 := w805
    clear w798 w799 w800 w801 w802 w803 w804 w805
    have E84818 : (u2 (u2 (u2 (u2 dt 79 17 0) 79 12 0) 79 19 0) 79 21 (-1)) 84 = dt 84 := (funext fun _ => rfl).trans E84806
    have E80819 : (u2 (u2 (u2 (u2 dt 79 17 0) 79 12 0) 79 19 0) 79 21 (-1)) 80 = dt 80 := (funext fun _ => u2_ne (fun z => absurd z.1 (by decide))).trans E80807
    refine go_smpq PM174 (L' := [some (.inr (.inr (some 79))), some (.inl p1), some (.inl p2), none]) (st' := []) (w' := (SH, (u2 (u2 (u2 (u2 dt 79 17 0) 79 12 0) 79 19 0) 79 21 (-1)))) rfl rfl (s_pf rfl rfl rfl rfl ⟨by decide, by decide⟩) ?_
    refine go_retq PM174 (k := 1) (r := some (.inl (-1))) (w1 := (SH, (u2 (u2 (u2 (u2 dt 79 17 0) 79 12 0) 79 19 0) 79 21 (-1)))) rfl ?_
    exact ⟨(u2 (u2 (u2 (u2 dt 79 17 0) 79 12 0) 79 19 0) 79 21 (-1)), rfl, hI808, hF809, ⟨_, rfl, ⟨by decide, by decide⟩, ⟨by first | exact True.intro | with_reducible assumption | rfl | omega | trivial, by first | exact True.intro | with_reducible assumption | rfl | omega | trivial, by first | assumption | exact hM, by first | rfl | exact congrFun E80819 0 | exact Eq.trans (by assumption) (congrFun E80819 0), by first | rfl | exact congrFun E80819 1 | exact Eq.trans (by assumption) (congrFun E80819 1), by first | rfl | exact congrFun E80819 2 | exact Eq.trans (by assumption) (congrFun E80819 2), by first | rfl | exact congrFun E80819 3 | exact Eq.trans (by assumption) (congrFun E80819 3), by first | rfl | exact congrFun E80819 4 | exact Eq.trans (by assumption) (congrFun E80819 4), by first | rfl | exact congrFun E80819 5 | exact Eq.trans (by assumption) (congrFun E80819 5)⟩⟩⟩
