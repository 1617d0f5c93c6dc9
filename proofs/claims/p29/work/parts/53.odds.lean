theorem PBI_s1 {D : Nat → Nat → Int} {n r x : Int} (h : PBI (D 102) n r) (hn : 0 ≤ n ∧ n ≤ 12) (hr : 0 ≤ r ∧ r < 8) (hx : x = D 102 r.toNat * 1) : PBI (u2 D 102 r.toNat x 102) n (r + 1) := by
  have e := p9_R hn
  have z := h r.toNat (by omega)
  have z3 := z.2.2 (by omega)
  refine PBI_s h hn hr (Or.inr rfl) ?_
  rw [hx, wl_id (by omega) (by omega)]
set_option maxRecDepth 20000 in
theorem sp_X6_oddsNow (L : Nat) (xs : Nat → Int32) (sio : Option Nat) (d : Nat) (dt : Nat → Nat → Int) (hI : InvC dt)  (p1 : Int) (h_p1 : 0 ≤ p1 ∧ p1 ≤ 7) (h_p0 : PB (dt 102) 12) : GO (am_XX L xs sio) (d) 225 0 [some (.inr (.inr (some 79))), some (.inl p1), none, none, none] [] (SH, dt) (fun r w2 => w2 = (SH, dt) ∧ ((∃ v : Int, r = some (.inl v) ∧ True ∧ True))) := by
  refine go_toq PM225 (k := 4) (pc' := 5) (L' := [some (.inr (.inr (some 79))), some (.inl p1), some (.inr (.inl 0)), none, some (.inl 0)]) (st' := []) (w' := (SH, dt)) rfl ?_
  have loop8 : ∀ (k_ : Nat) (l5_2 : Int) (l5_4 : Int) (i4 : 0 ≤ l5_2 ∧ l5_2 ≤ 2259436291848) (i5 : 0 ≤ l5_4 ∧ l5_4 ≤ 8) (i6 : l5_4 ≤ l5_2) (i7 : l5_2 ≤ 282429536481 * l5_4), (9 - l5_4).toNat < k_ → GO (am_XX L xs sio) (d) 225 5 [some (.inr (.inr (some 79))), some (.inl p1), some (.inr (.inl l5_2)), none, some (.inl l5_4)] [] (SH, dt) (fun r w2 => w2 = (SH, dt) ∧ ((∃ v : Int, r = some (.inl v) ∧ True ∧ True))) := by
    intro k_
    induction k_ with
    | zero => intro l5_2 l5_4 i4 i5 i6 i7 hm; exact absurd hm (Nat.not_lt_zero _)
    | succ k_ ih_loop8 =>
      intro l5_2 l5_4 i4 i5 i6 i7 hm
      have hp9 : p9 (12 : Int).toNat = 282429536481 := (by decide +kernel)
      have hp : l5_4 < 8 → _ := fun z => h_p0 (l5_4).toNat (by omega)
      refine go_ifq PM225 (k := 2) (p1 := 28) (p2 := 12) (L' := [some (.inr (.inr (some 79))), some (.inl p1), some (.inr (.inl l5_2)), none, some (.inl l5_4)]) (st' := []) (w' := (SH, dt)) rfl (c_ge (a := l5_4) (b := 8) (by first | exact bnd i5 (by decide) (by decide) | exact ⟨by fail, by fail⟩) ⟨by decide, by decide⟩) (fun c9 => ?_) (fun c9 => ?_)
      · skip
        refine go_toq PM225 (k := 4) (pc' := 36) (L' := [some (.inr (.inr (some 79))), some (.inl p1), some (.inr (.inl l5_2)), none, some (.inl l5_4)]) (st' := [.inl p1, .inr (.inr (some 102)), .inr (.inl 1000)]) (w' := (SH, dt)) rfl ?_
        have r10 : (-9223372036854775808) ≤ dt 102 (p1).toNat ∧ dt 102 (p1).toNat ≤ 9223372036854775807 := InvC_get hI 102 (p1).toNat rfl rfl
        refine go_smpq PM225 (L' := [some (.inr (.inr (some 79))), some (.inl p1), some (.inr (.inl l5_2)), none, some (.inl l5_4)]) (st' := [.inr (.inl (dt 102 (p1).toNat)), .inr (.inl 1000)]) (w' := (SH, dt)) rfl rfl (s_lald (n := 8) (f := dt 102) rfl (by first | exact bndx h_p1 (by decide) (by decide) | exact ⟨by fail, by fail⟩)) ?_
        refine go_toq PM225 (k := 2) (pc' := 39) (L' := [some (.inr (.inr (some 79))), some (.inl p1), some (.inr (.inl l5_2)), none, some (.inl l5_4)]) (st' := [.inr (.inl l5_2), .inr (.inl (1000 * (dt 102 (p1).toNat)))]) (w' := (SH, dt)) rfl ?_
        refine go_smpq PM225 (L' := [some (.inr (.inr (some 79))), some (.inl p1), some (.inr (.inl l5_2)), none, some (.inl l5_4)]) (st' := [.inr (.inl ((wl (1000 * (dt 102 (p1).toNat))).tdiv (wl l5_2)))]) (w' := (SH, dt)) rfl rfl (s_ldiv (by rw [wl_id (by omega) (by omega)]; omega)) ?_
        refine go_retq PM225 (k := 1) (r := some (.inl ((wl (1000 * (dt 102 (p1).toNat))).tdiv (wl l5_2)))) (w1 := (SH, dt)) rfl ?_
        exact ⟨rfl, ⟨_, rfl, trivial, trivial⟩⟩
      · skip
        refine go_toq PM225 (k := 4) (pc' := 19) (L' := [some (.inr (.inr (some 79))), some (.inl p1), some (.inr (.inl l5_2)), none, some (.inl l5_4)]) (st' := [.inl l5_4, .inr (.inr (some 102)), .inr (.inl l5_2)]) (w' := (SH, dt)) rfl ?_
        have r11 : (-9223372036854775808) ≤ dt 102 (l5_4).toNat ∧ dt 102 (l5_4).toNat ≤ 9223372036854775807 := InvC_get hI 102 (l5_4).toNat rfl rfl
        refine go_smpq PM225 (L' := [some (.inr (.inr (some 79))), some (.inl p1), some (.inr (.inl l5_2)), none, some (.inl l5_4)]) (st' := [.inr (.inl (dt 102 (l5_4).toNat)), .inr (.inl l5_2)]) (w' := (SH, dt)) rfl rfl (s_lald (n := 8) (f := dt 102) rfl (by first | exact bndc i5 c9 (by decide) (by decide) | exact bndx i5 (by decide) (by decide) | exact ⟨by fail, by fail⟩)) ?_
        refine go_toq PM225 (k := 4) (pc' := 5) (L' := [some (.inr (.inr (some 79))), some (.inl p1), some (.inr (.inl (l5_2 + (dt 102 (l5_4).toNat)))), none, some (.inl (l5_4 + 1))]) (st' := []) (w' := (SH, dt)) rfl ?_
        exact GO.le (ih_loop8 (l5_2 + (dt 102 (l5_4).toNat)) (l5_4 + 1) (by omega) (by first | exact bndp i5 (by decide) (by decide) | exact bnde i5 c9 (by decide) (by decide) | fail) (by omega) (by omega) (by omega)) ⟨.inl rfl, .inl rfl, .inl rfl, .inl rfl, .inl rfl, trivial⟩
  exact GO.le (loop8 _ 0 0 ⟨by decide, by decide⟩ ⟨by decide, by decide⟩ (by omega) (by omega) (Nat.lt_succ_self _)) ⟨.inl rfl, .inl rfl, .inl rfl, .inl rfl, .inl rfl, trivial⟩
set_option maxRecDepth 20000 in
theorem sp_X6_need (L : Nat) (xs : Nat → Int32) (sio : Option Nat) (d : Nat) (dt : Nat → Nat → Int) (hI : InvC dt) (hM : MW (dt 80))  (p1 : Int) (h_p1 : (-2147483648) ≤ p1 ∧ p1 ≤ 2147483647) (p2 : Int) (h_p2 : (-2147483648) ≤ p2 ∧ p2 ≤ 2147483647)  : GO (am_XX L xs sio) (d + 5) 228 0 [some (.inr (.inr (some 79))), some (.inl p1), some (.inl p2), none, none, none] [] (SH, dt) (fun r w2 => ∃ dt2 : Nat → Nat → Int, w2 = (SH, dt2) ∧ InvC dt2 ∧ Fr [88, 89, 90, 91, 92, 93, 94, 95, 96, 97, 98, 99, 100, 102] dt dt2 ∧ ((∃ v : Int, r = some (.inl v) ∧ ((-1) ≤ v ∧ v ≤ 12) ∧ True))) := by
  have hF : Fr [88, 89, 90, 91, 92, 93, 94, 95, 96, 97, 98, 99, 100, 102] dt dt := Fr_refl
  have r1 : (-2147483648) ≤ dt 80 1 ∧ dt 80 1 ≤ 2147483647 := InvC_get hI 80 1 rfl rfl
  have r2 := MW_n hM
  refine go_toq PM228 (k := 1) (pc' := 1) (L' := [some (.inr (.inr (some 79))), some (.inl p1), some (.inl p2), none, none, none]) (st' := [.inl p1]) (w' := (SH, dt)) rfl ?_
  refine go_callq PM228 PM217 (Q' := _) rfl rfl rfl rfl (sp_X6_isRule L xs sio (d + 3) dt hI  p1 (by first | exact h_p1 | exact bnd h_p1 (by decide) (by decide) | exact ⟨by fail, by fail⟩) ) ?_
  rintro _ _ ⟨rfl, h3⟩
  refine ⟨rfl, ?_⟩
  rcases h3 with ⟨rfl, h3⟩ | ⟨rfl, h3⟩
  · skip
    refine go_toq PM228 (k := 4) (pc' := 12) (L' := [some (.inr (.inr (some 79))), some (.inl p1), some (.inl p2), none, none, none]) (st' := [.inl 1000, .inl 1, .inl p2]) (w' := (SH, dt)) rfl ?_
    refine go_callq PM228 PM146 (Q' := _) rfl rfl rfl rfl (sp_X6_isIn L xs sio (d + 4) dt hI  p2 (by first | exact h_p2 | exact bnd h_p2 (by decide) (by decide) | exact ⟨by fail, by fail⟩) 1 ⟨by decide, by decide⟩ 1000 ⟨by decide, by decide⟩ ) ?_
    rintro _ _ ⟨rfl, h4⟩
    refine ⟨rfl, ?_⟩
    rcases h4 with ⟨rfl, h4⟩ | ⟨rfl, h4⟩
    · skip
      refine go_toq PM228 (k := 3) (pc' := 22) (L' := [some (.inr (.inr (some 79))), some (.inl p1), some (.inl p2), some (.inl 0), none, none]) (st' := []) (w' := (SH, dt)) rfl ?_
      have loop14 : ∀ (k_ : Nat) (l22_3 : Int) (dt9 : Nat → Nat → Int) (hI10 : InvC dt9) (hF11 : Fr [88, 89, 90, 91, 92, 93, 94, 95, 96, 97, 98, 99, 100, 102] dt dt9) (i12 : 0 ≤ l22_3 ∧ l22_3 ≤ 8) (i13 : ∀ q : Nat, (q : Int) < l22_3 → dt9 102 q = 1), (9 - l22_3).toNat < k_ → GO (am_XX L xs sio) (d + 5) 228 22 [some (.inr (.inr (some 79))), some (.inl p1), some (.inl p2), some (.inl l22_3), none, none] [] (SH, dt9) (fun r w2 => ∃ dt2 : Nat → Nat → Int, w2 = (SH, dt2) ∧ InvC dt2 ∧ Fr [88, 89, 90, 91, 92, 93, 94, 95, 96, 97, 98, 99, 100, 102] dt dt2 ∧ ((∃ v : Int, r = some (.inl v) ∧ ((-1) ≤ v ∧ v ≤ 12) ∧ True))) := by
        intro k_
        induction k_ with
        | zero => intro l22_3 dt9 hI10 hF11 i12 i13 hm; exact absurd hm (Nat.not_lt_zero _)
        | succ k_ ih_loop14 =>
          intro l22_3 dt9 hI10 hF11 i12 i13 hm
          refine go_ifq PM228 (k := 2) (p1 := 41) (p2 := 28) (L' := [some (.inr (.inr (some 79))), some (.inl p1), some (.inl p2), some (.inl l22_3), none, none]) (st' := []) (w' := (SH, dt9)) rfl (c_ge (a := l22_3) (b := 8) (by first | exact bnd i12 (by decide) (by decide) | exact ⟨by fail, by fail⟩) ⟨by decide, by decide⟩) (fun c15 => ?_) (fun c15 => ?_)
          · skip
            refine go_toq PM228 (k := 2) (pc' := 43) (L' := [some (.inr (.inr (some 79))), some (.inl p1), some (.inl p2), some (.inl 0), none, none]) (st' := []) (w' := (SH, dt9)) rfl ?_
            have loop58 : ∀ (k_ : Nat) (l43_3 : Int) (dt52 : Nat → Nat → Int) (hI53 : InvC dt52) (hF54 : Fr [88, 89, 90, 91, 92, 93, 94, 95, 96, 97, 98, 99, 100, 102] dt dt52) (i55 : 0 ≤ l43_3 ∧ l43_3 ≤ 13) (i56 : PB (dt52 102) l43_3) (i57 : l43_3 ≤ dt 80 1), (14 - l43_3).toNat < k_ → GO (am_XX L xs sio) (d + 5) 228 43 [some (.inr (.inr (some 79))), some (.inl p1), some (.inl p2), some (.inl l43_3), none, none] [] (SH, dt52) (fun r w2 => ∃ dt2 : Nat → Nat → Int, w2 = (SH, dt2) ∧ InvC dt2 ∧ Fr [88, 89, 90, 91, 92, 93, 94, 95, 96, 97, 98, 99, 100, 102] dt dt2 ∧ ((∃ v : Int, r = some (.inl v) ∧ ((-1) ≤ v ∧ v ≤ 12) ∧ True))) := by
              intro k_
              induction k_ with
              | zero => intro l43_3 dt52 hI53 hF54 i55 i56 i57 hm; exact absurd hm (Nat.not_lt_zero _)
              | succ k_ ih_loop58 =>
                intro l43_3 dt52 hI53 hF54 i55 i56 i57 hm
                have hPB := i56
                refine go_toq PM228 (k := 4) (pc' := 49) (L' := [some (.inr (.inr (some 79))), some (.inl p1), some (.inl p2), some (.inl l43_3), none, none]) (st' := [.inl 1, .inr (.inr (some 80)), .inl l43_3]) (w' := (SH, dt52)) rfl ?_
                refine go_smpq PM228 (L' := [some (.inr (.inr (some 79))), some (.inl p1), some (.inl p2), some (.inl l43_3), none, none]) (st' := [.inl (dt 80 1), .inl l43_3]) (w' := (SH, dt52)) rfl rfl (s_ev (s_iald (n := 7460) (f := dt52 80) rfl ⟨by decide, by decide⟩) (hF54 80 (by decide) _)) ?_
                refine go_ifq PM228 (k := 0) (p1 := 145) (p2 := 53) (L' := [some (.inr (.inr (some 79))), some (.inl p1), some (.inl p2), some (.inl l43_3), none, none]) (st' := []) (w' := (SH, dt52)) rfl (c_gt (a := l43_3) (b := dt 80 1) (by first | exact bnd i55 (by decide) (by decide) | exact ⟨by fail, by fail⟩) (by first | exact bnd r1 (by decide) (by decide) | exact ⟨by fail, by fail⟩)) (fun c59 => ?_) (fun c59 => ?_)
                · skip
                  refine go_retq PM228 (k := 1) (r := some (.inl (-1))) (w1 := (SH, dt52)) rfl ?_
                  exact ⟨dt52, rfl, hI53, hF54, ⟨_, rfl, ⟨by decide, by decide⟩, trivial⟩⟩
                · skip
                  refine go_toq PM228 (k := 2) (pc' := 55) (L' := [some (.inr (.inr (some 79))), some (.inl p1), some (.inl p2), some (.inl l43_3), none, none]) (st' := [.inl p1, .inr (.inr (some 79))]) (w' := (SH, dt52)) rfl ?_
                  refine go_callq PM228 PM225 (Q' := _) rfl rfl rfl rfl (sp_X6_oddsNow L xs sio (d + 4) dt52 hI53  p1 (by first | exact h_p1 | exact bnd h_p1 (by decide) (by decide) | exact ⟨by omega, by omega⟩) (by first | exact True.intro | with_reducible assumption | rfl | fail | trivial | exact PB_mono hPB ⟨by omega, by omega⟩ rfl)) ?_
                  rintro _ _ ⟨rfl, h60⟩
                  refine ⟨rfl, ?_⟩
                  rcases h60 with ⟨v_h60, rfl, h60r, h60⟩
                  have r62 := wr_RR v_h60
                  have r63 := wr_RR p2
                  refine go_ifq PM228 (k := 1) (p1 := 64) (p2 := 62) (L' := [some (.inr (.inr (some 79))), some (.inl p1), some (.inl p2), some (.inl l43_3), none, none]) (st' := []) (w' := (SH, dt52)) rfl (u_lt (a := wr v_h60) (b := wr p2)) (fun c61 => ?_) (fun c61 => ?_)
                  · skip
                    refine go_toq PM228 (k := 4) (pc' := 70) (L' := [some (.inr (.inr (some 79))), some (.inl p1), some (.inl p2), some (.inl l43_3), none, none]) (st' := [.inl 1, .inr (.inr (some 80)), .inl l43_3]) (w' := (SH, dt52)) rfl ?_
                    refine go_smpq PM228 (L' := [some (.inr (.inr (some 79))), some (.inl p1), some (.inl p2), some (.inl l43_3), none, none]) (st' := [.inl (dt 80 1), .inl l43_3]) (w' := (SH, dt52)) rfl rfl (s_ev (s_iald (n := 7460) (f := dt52 80) rfl ⟨by decide, by decide⟩) (hF54 80 (by decide) _)) ?_
                    refine go_ifq PM228 (k := 0) (p1 := 76) (p2 := 74) (L' := [some (.inr (.inr (some 79))), some (.inl p1), some (.inl p2), some (.inl l43_3), none, none]) (st' := []) (w' := (SH, dt52)) rfl (c_ne (a := l43_3) (b := dt 80 1) (by first | exact bnd i55 (by decide) (by decide) | exact ⟨by fail, by fail⟩) (by first | exact bnd r1 (by decide) (by decide) | exact ⟨by fail, by fail⟩)) (fun c64 => ?_) (fun c64 => ?_)
                    · skip
                      replace c64 := hid c64
                      refine go_toq PM228 (k := 4) (pc' := 80) (L' := [some (.inr (.inr (some 79))), some (.inl p1), some (.inl p2), some (.inl l43_3), none, none]) (st' := [.inl 0, .inl l43_3, .inr (.inr (some 79)), .inr (.inr (some 79))]) (w' := (SH, dt52)) rfl ?_
                      refine go_callq PM228 PM191 (Q' := _) rfl rfl rfl rfl (sp_X6_asked_0 L xs sio (d + 4) dt52 hI53 (MW_fr hM hF54 (by decide))  l43_3 (by first | exact bnd i55 (by decide) (by decide) | exact ⟨by omega, by (have z0_ := unhid c64; omega)⟩) ) ?_
                      rintro _ _ ⟨rfl, h65⟩
                      refine ⟨rfl, ?_⟩
                      rcases h65 with ⟨rfl, h65⟩
                      refine go_callq PM228 PM184 (Q' := _) rfl rfl rfl rfl (sp_X6_goes L xs sio (d + 0) dt52 hI53 (MW_fr hM hF54 (by decide))  (dt52 80 (((5320 + (5 * l43_3)) + 0)).toNat) ⟨by omega, by omega⟩ ) ?_
                      rintro _ _ ⟨dt67, rfl, hI68, hF69, h66⟩
                      refine ⟨rfl, ?_⟩
                      have hF70 : Fr [88, 89, 90, 91, 92, 93, 94, 95, 96, 97, 98, 99, 100, 102] dt dt67 := Fr_tr hF54 hF69 (by decide)
                      rcases h66 with ⟨rfl, h66⟩
                      have PB71 : PB (dt67 102) l43_3 := PB_fr hPB hF69 (by decide)
                      refine go_toq PM228 (k := 3) (pc' := 89) (L' := [some (.inr (.inr (some 79))), some (.inl p1), some (.inl p2), some (.inl l43_3), none, none]) (st' := [.inl p1, .inl l43_3, .inr (.inr (some 79))]) (w' := (SH, dt67)) rfl ?_
                      refine go_callq PM228 PM194 (Q' := _) rfl rfl rfl rfl (sp_X6_saysNow L xs sio (d + 3) dt67 hI68 (MW_fr hM hF70 (by decide))  l43_3 (by first | exact bnd i55 (by decide) (by decide) | exact ⟨by omega, by (have z0_ := unhid c64; omega)⟩) p1 (by first | exact h_p1 | exact bnd h_p1 (by decide) (by decide) | exact ⟨by omega, by omega⟩) ) ?_
                      rintro _ _ ⟨rfl, h72⟩
                      refine ⟨rfl, ?_⟩
                      rcases h72 with ⟨v_h72, rfl, h72r, h72⟩
                      refine go_toq PM228 (k := 3) (pc' := 97) (L' := [some (.inr (.inr (some 79))), some (.inl p1), some (.inl p2), some (.inl l43_3), some (.inl v_h72), some (.inl 0)]) (st' := []) (w' := (SH, dt67)) rfl ?_
                      have loop88 : ∀ (k_ : Nat) (l97_5 : Int) (dt83 : Nat → Nat → Int) (hI84 : InvC dt83) (hF85 : Fr [88, 89, 90, 91, 92, 93, 94, 95, 96, 97, 98, 99, 100, 102] dt dt83) (i86 : 0 ≤ l97_5 ∧ l97_5 ≤ 8) (i87 : PBI (dt83 102) (l43_3 + 1) l97_5), (9 - l97_5).toNat < k_ → GO (am_XX L xs sio) (d + 5) 228 97 [some (.inr (.inr (some 79))), some (.inl p1), some (.inl p2), some (.inl l43_3), some (.inl v_h72), some (.inl l97_5)] [] (SH, dt83) (fun r w2 => ∃ dt2 : Nat → Nat → Int, w2 = (SH, dt2) ∧ InvC dt2 ∧ Fr [88, 89, 90, 91, 92, 93, 94, 95, 96, 97, 98, 99, 100, 102] dt dt2 ∧ ((∃ v : Int, r = some (.inl v) ∧ ((-1) ≤ v ∧ v ≤ 12) ∧ True))) := by
                        intro k_
                        induction k_ with
                        | zero => intro l97_5 dt83 hI84 hF85 i86 i87 hm; exact absurd hm (Nat.not_lt_zero _)
                        | succ k_ ih_loop88 =>
                          intro l97_5 dt83 hI84 hF85 i86 i87 hm
                          have hPBI := i87
                          refine go_ifq PM228 (k := 2) (p1 := 139) (p2 := 104) (L' := [some (.inr (.inr (some 79))), some (.inl p1), some (.inl p2), some (.inl l43_3), some (.inl v_h72), some (.inl l97_5)]) (st' := []) (w' := (SH, dt83)) rfl (c_ge (a := l97_5) (b := 8) (by first | exact bnd i86 (by decide) (by decide) | exact ⟨by fail, by fail⟩) ⟨by decide, by decide⟩) (fun c89 => ?_) (fun c89 => ?_)
                          · skip
                            refine go_toq PM228 (k := 2) (pc' := 43) (L' := [some (.inr (.inr (some 79))), some (.inl p1), some (.inl p2), some (.inl (l43_3 + 1)), some (.inl v_h72), some (.inl l97_5)]) (st' := []) (w' := (SH, dt83)) rfl ?_
                            exact GO.le (ih_loop58 (l43_3 + 1) dt83 hI84 hF85 (by first | exact bndp i55 (by decide) (by decide) | omega) (by first | assumption | exact PB71 | exact PBO_8 (by assumption) (by omega) | exact PBI_8 (by assumption) (by omega)) (by (have z0_ := unhid c64; omega)) (by omega)) ⟨.inl rfl, .inl rfl, .inl rfl, .inl rfl, .inr ⟨rfl, trivial⟩, .inr ⟨rfl, trivial⟩, trivial⟩
                          · skip
                            refine go_toq PM228 (k := 4) (pc' := 111) (L' := [some (.inr (.inr (some 79))), some (.inl p1), some (.inl p2), some (.inl l43_3), some (.inl v_h72), some (.inl l97_5)]) (st' := [.inl l97_5, .inr (.inr (some 102)), .inl l97_5, .inr (.inr (some 102))]) (w' := (SH, dt83)) rfl ?_
                            have r90 : (-9223372036854775808) ≤ dt83 102 (l97_5).toNat ∧ dt83 102 (l97_5).toNat ≤ 9223372036854775807 := InvC_get hI84 102 (l97_5).toNat rfl rfl
                            refine go_smpq PM228 (L' := [some (.inr (.inr (some 79))), some (.inl p1), some (.inl p2), some (.inl l43_3), some (.inl v_h72), some (.inl l97_5)]) (st' := [.inr (.inl (dt83 102 (l97_5).toNat)), .inl l97_5, .inr (.inr (some 102))]) (w' := (SH, dt83)) rfl rfl (s_lald (n := 8) (f := dt83 102) rfl (by first | exact bndc i86 c89 (by decide) (by decide) | exact bndx i86 (by decide) (by decide) | exact ⟨by fail, by fail⟩)) ?_
                            refine go_toq PM228 (k := 3) (pc' := 116) (L' := [some (.inr (.inr (some 79))), some (.inl p1), some (.inl p2), some (.inl l43_3), some (.inl v_h72), some (.inl l97_5)]) (st' := [.inl l97_5, .inl l43_3, .inr (.inr (some 79)), .inr (.inl (dt83 102 (l97_5).toNat)), .inl l97_5, .inr (.inr (some 102))]) (w' := (SH, dt83)) rfl ?_
                            refine go_callq PM228 PM194 (Q' := _) rfl rfl rfl rfl (sp_X6_saysNow L xs sio (d + 3) dt83 hI84 (MW_fr hM hF85 (by decide))  l43_3 (by first | exact bnd i55 (by decide) (by decide) | exact ⟨by omega, by (have z0_ := unhid c64; omega)⟩) l97_5 (by first | exact bnd i86 (by decide) (by decide) | exact bndd i86 c89 (by decide) (by decide) | exact ⟨by fail, by fail⟩) ) ?_
                            rintro _ _ ⟨rfl, h91⟩
                            refine ⟨rfl, ?_⟩
                            rcases h91 with ⟨v_h91, rfl, h91r, h91⟩
                            refine go_ifq PM228 (k := 1) (p1 := 130) (p2 := 124) (L' := [some (.inr (.inr (some 79))), some (.inl p1), some (.inl p2), some (.inl l43_3), some (.inl v_h72), some (.inl l97_5)]) (st' := [.inr (.inl (dt83 102 (l97_5).toNat)), .inl l97_5, .inr (.inr (some 102))]) (w' := (SH, dt83)) rfl (c_ne (a := v_h91) (b := v_h72) (by first | exact bnd h91r (by decide) (by decide) | exact ⟨by fail, by fail⟩) (by first | exact bnd h72r (by decide) (by decide) | exact ⟨by fail, by fail⟩)) (fun c92 => ?_) (fun c92 => ?_)
                            · skip
                              replace c92 := hid c92
                              refine go_toq PM228 (k := 2) (pc' := 132) (L' := [some (.inr (.inr (some 79))), some (.inl p1), some (.inl p2), some (.inl l43_3), some (.inl v_h72), some (.inl l97_5)]) (st' := [.inr (.inl ((dt83 102 (l97_5).toNat) * 1)), .inl l97_5, .inr (.inr (some 102))]) (w' := (SH, dt83)) rfl ?_
                              have hI93 : InvC (u2 dt83 102 (l97_5).toNat ((dt83 102 (l97_5).toNat) * 1)) := InvC_u2 hI84 (lo := -9223372036854775808) (hi := 9223372036854775807) rfl rfl rfl (by omega) (by omega)
                              have hF94 : Fr [88, 89, 90, 91, 92, 93, 94, 95, 96, 97, 98, 99, 100, 102] dt (u2 dt83 102 (l97_5).toNat ((dt83 102 (l97_5).toNat) * 1)) := Fr_u2 hF85 (by decide)
                              refine go_smpq PM228 (L' := [some (.inr (.inr (some 79))), some (.inl p1), some (.inl p2), some (.inl l43_3), some (.inl v_h72), some (.inl l97_5)]) (st' := []) (w' := (SH, (u2 dt83 102 (l97_5).toNat ((dt83 102 (l97_5).toNat) * 1)))) rfl rfl (s_last (n := 8) rfl (by first | exact bndc i86 c89 (by decide) (by decide) | exact bndx i86 (by decide) (by decide) | exact ⟨by fail, by fail⟩) ⟨by omega, by omega⟩) ?_
                              refine go_toq PM228 (k := 2) (pc' := 97) (L' := [some (.inr (.inr (some 79))), some (.inl p1), some (.inl p2), some (.inl l43_3), some (.inl v_h72), some (.inl (l97_5 + 1))]) (st' := []) (w' := (SH, (u2 dt83 102 (l97_5).toNat ((dt83 102 (l97_5).toNat) * 1)))) rfl ?_
                              exact GO.le (ih_loop88 (l97_5 + 1) (u2 dt83 102 (l97_5).toNat ((dt83 102 (l97_5).toNat) * 1)) hI93 hF94 (by first | exact bndp i86 (by decide) (by decide) | exact bnde i86 c89 (by decide) (by decide) | fail) (by first | exact PBI_0 (by assumption) (by omega) (by fail) | exact PBI_s hPBI ⟨by omega, by (have z0_ := unhid c64; have z1_ := unhid c92; omega)⟩ ⟨by omega, by omega⟩ (Or.inl rfl) rfl | exact PBI_s hPBI ⟨by omega, by (have z0_ := unhid c64; have z1_ := unhid c92; omega)⟩ ⟨by omega, by omega⟩ (Or.inr rfl) rfl | exact PBI_s1 hPBI ⟨by omega, by (have z0_ := unhid c64; have z1_ := unhid c92; omega)⟩ ⟨by omega, by omega⟩ rfl) (by omega)) ⟨.inl rfl, .inl rfl, .inl rfl, .inl rfl, .inl rfl, .inl rfl, trivial⟩
                            · skip
                              refine go_toq PM228 (k := 3) (pc' := 132) (L' := [some (.inr (.inr (some 79))), some (.inl p1), some (.inl p2), some (.inl l43_3), some (.inl v_h72), some (.inl l97_5)]) (st' := [.inr (.inl ((dt83 102 (l97_5).toNat) * 9)), .inl l97_5, .inr (.inr (some 102))]) (w' := (SH, dt83)) rfl ?_
                              have r95 := wl_RR ((dt83 102 (l97_5).toNat) * 9)
                              have hI96 : InvC (u2 dt83 102 (l97_5).toNat (wl ((dt83 102 (l97_5).toNat) * 9))) := InvC_u2 hI84 (lo := -9223372036854775808) (hi := 9223372036854775807) rfl rfl rfl (by omega) (by omega)
                              have hF97 : Fr [88, 89, 90, 91, 92, 93, 94, 95, 96, 97, 98, 99, 100, 102] dt (u2 dt83 102 (l97_5).toNat (wl ((dt83 102 (l97_5).toNat) * 9))) := Fr_u2 hF85 (by decide)
                              refine go_smpq PM228 (L' := [some (.inr (.inr (some 79))), some (.inl p1), some (.inl p2), some (.inl l43_3), some (.inl v_h72), some (.inl l97_5)]) (st' := []) (w' := (SH, (u2 dt83 102 (l97_5).toNat (wl ((dt83 102 (l97_5).toNat) * 9))))) rfl rfl (s_lastw (n := 8) rfl (by first | exact bndc i86 c89 (by decide) (by decide) | exact bndx i86 (by decide) (by decide) | exact ⟨by fail, by fail⟩)) ?_
                              refine go_toq PM228 (k := 2) (pc' := 97) (L' := [some (.inr (.inr (some 79))), some (.inl p1), some (.inl p2), some (.inl l43_3), some (.inl v_h72), some (.inl (l97_5 + 1))]) (st' := []) (w' := (SH, (u2 dt83 102 (l97_5).toNat (wl ((dt83 102 (l97_5).toNat) * 9))))) rfl ?_
                              exact GO.le (ih_loop88 (l97_5 + 1) (u2 dt83 102 (l97_5).toNat (wl ((dt83 102 (l97_5).toNat) * 9))) hI96 hF97 (by first | exact bndp i86 (by decide) (by decide) | exact bnde i86 c89 (by decide) (by decide) | fail) (by first | exact PBI_0 (by assumption) (by omega) (by fail) | exact PBI_s hPBI ⟨by omega, by (have z0_ := unhid c64; omega)⟩ ⟨by omega, by omega⟩ (Or.inl rfl) rfl | exact PBI_s hPBI ⟨by fail, by fail⟩ ⟨by fail, by fail⟩ (Or.inr rfl) rfl | exact PBI_s1 hPBI ⟨by fail, by fail⟩ ⟨by fail, by fail⟩ rfl) (by omega)) ⟨.inl rfl, .inl rfl, .inl rfl, .inl rfl, .inl rfl, .inl rfl, trivial⟩
                      exact GO.le (loop88 _ 0 dt67 hI68 hF70 ⟨by decide, by decide⟩ (by first | exact PBI_0 (by assumption) (by omega) (by omega) | exact PBI_s PB71I ⟨by fail, by fail⟩ ⟨by fail, by fail⟩ (Or.inl rfl) rfl | exact PBI_s PB71I ⟨by fail, by fail⟩ ⟨by fail, by fail⟩ (Or.inr rfl) rfl | exact PBI_s1 PB71I ⟨by fail, by fail⟩ ⟨by fail, by fail⟩ rfl) (Nat.lt_succ_self _)) ⟨.inl rfl, .inl rfl, .inl rfl, .inl rfl, .inl rfl, .inl rfl, trivial⟩
                    · skip
                      refine go_retq PM228 (k := 1) (r := some (.inl (-1))) (w1 := (SH, dt52)) rfl ?_
                      exact ⟨dt52, rfl, hI53, hF54, ⟨_, rfl, ⟨by decide, by decide⟩, trivial⟩⟩
                  · skip
                    refine go_retq PM228 (k := 1) (r := some (.inl l43_3)) (w1 := (SH, dt52)) rfl ?_
                    exact ⟨dt52, rfl, hI53, hF54, ⟨_, rfl, (by first | exact bnd i55 (by decide) (by decide) | exact ⟨by omega, by omega⟩), trivial⟩⟩
            exact GO.le (loop58 _ 0 dt9 hI10 hF11 ⟨by decide, by decide⟩ (by first | assumption | exact $PB | exact PBO_8 (by assumption) (by omega) | exact PBI_8 (by assumption) (by fail)) (by omega) (Nat.lt_succ_self _)) ⟨.inl rfl, .inl rfl, .inl rfl, .inl rfl, .inl rfl, .inl rfl, trivial⟩
          · skip
            refine go_toq PM228 (k := 4) (pc' := 34) (L' := [some (.inr (.inr (some 79))), some (.inl p1), some (.inl p2), some (.inl l22_3), none, none]) (st' := [.inr (.inl 1), .inl l22_3, .inr (.inr (some 102))]) (w' := (SH, dt9)) rfl ?_
            have hI98 : InvC (u2 dt9 102 (l22_3).toNat 1) := InvC_u2 hI10 (lo := -9223372036854775808) (hi := 9223372036854775807) rfl rfl rfl (by decide) (by decide)
            have hF99 : Fr [88, 89, 90, 91, 92, 93, 94, 95, 96, 97, 98, 99, 100, 102] dt (u2 dt9 102 (l22_3).toNat 1) := Fr_u2 hF11 (by decide)
            refine go_smpq PM228 (L' := [some (.inr (.inr (some 79))), some (.inl p1), some (.inl p2), some (.inl l22_3), none, none]) (st' := []) (w' := (SH, (u2 dt9 102 (l22_3).toNat 1))) rfl rfl (s_last (n := 8) rfl (by first | exact bndc i12 c15 (by decide) (by decide) | exact bndx i12 (by decide) (by decide) | exact ⟨by fail, by fail⟩) ⟨by omega, by omega⟩) ?_
            refine go_toq PM228 (k := 2) (pc' := 22) (L' := [some (.inr (.inr (some 79))), some (.inl p1), some (.inl p2), some (.inl (l22_3 + 1)), none, none]) (st' := []) (w' := (SH, (u2 dt9 102 (l22_3).toNat 1))) rfl ?_
            exact GO.le (ih_loop14 (l22_3 + 1) (u2 dt9 102 (l22_3).toNat 1) hI98 hF99 (by first | exact bndp i12 (by decide) (by decide) | exact bnde i12 c15 (by decide) (by decide) | fail) (by first | exact PBO_0 | exact PBO_s (by assumption) (by omega)) (by omega)) ⟨.inl rfl, .inl rfl, .inl rfl, .inl rfl, .inl rfl, .inl rfl, trivial⟩
      exact GO.le (loop14 _ 0 dt hI hF ⟨by decide, by decide⟩ (by first | exact PBO_0 | exact PBO_s (by assumption) (by fail)) (Nat.lt_succ_self _)) ⟨.inl rfl, .inl rfl, .inl rfl, .inl rfl, .inl rfl, .inl rfl, trivial⟩
    · skip
      refine go_retq PM228 (k := 2) (r := some (.inl (-1))) (w1 := (SH, dt)) rfl ?_
      exact ⟨dt, rfl, hI, hF, ⟨_, rfl, ⟨by decide, by decide⟩, trivial⟩⟩
  · skip
    refine go_retq PM228 (k := 2) (r := some (.inl (-1))) (w1 := (SH, dt)) rfl ?_
    exact ⟨dt, rfl, hI, hF, ⟨_, rfl, ⟨by decide, by decide⟩, trivial⟩⟩
