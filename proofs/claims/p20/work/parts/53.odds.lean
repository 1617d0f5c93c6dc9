theorem PBI_s1 {D : Nat → Nat → Int} {n r x : Int} (h : PBI (D 102) n r) (hn : 0 ≤ n ∧ n ≤ 12) (hr : 0 ≤ r ∧ r < 8) (hx : x = D 102 r.toNat * 1) : PBI (u2 D 102 r.toNat x 102) n (r + 1) := by
  have e := p9_R hn
  have z := h r.toNat (by omega)
  have z3 := z.2.2 (by omega)
  refine PBI_s h hn hr (Or.inr rfl) ?_
  rw [hx, wl_id (by omega) (by omega)]
set_option maxRecDepth 20000 in
theorem sp_X6_multiplies (L : Nat) (xs : Nat → Int32) (sio : Option Nat) (d : Nat) (dt : Nat → Nat → Int) (hI : InvC dt) (hM : MW (dt 80))  (p1 : Int) (h_p1 : 0 ≤ p1 ∧ p1 ≤ 39)  : GO (am_XX L xs sio) (d + 5) 224 0 [some (.inr (.inr (some 79))), some (.inl p1), none, none, none] [] (SH, dt) (fun r w2 => ∃ dt2 : Nat → Nat → Int, w2 = (SH, dt2) ∧ InvC dt2 ∧ Fr [88, 89, 90, 91, 92, 93, 94, 95, 96, 97, 98, 99, 100, 102] dt dt2 ∧ ((r = none ∧ (PB (dt2 102) 12)))) := by
  have hF : Fr [88, 89, 90, 91, 92, 93, 94, 95, 96, 97, 98, 99, 100, 102] dt dt := Fr_refl
  refine go_toq PM224 (k := 2) (pc' := 2) (L' := [some (.inr (.inr (some 79))), some (.inl p1), some (.inl 0), none, none]) (st' := []) (w' := (SH, dt)) rfl ?_
  have loop10 : ∀ (k_ : Nat) (l2_2 : Int) (dt5 : Nat → Nat → Int) (hI6 : InvC dt5) (hF7 : Fr [88, 89, 90, 91, 92, 93, 94, 95, 96, 97, 98, 99, 100, 102] dt dt5) (i8 : 0 ≤ l2_2 ∧ l2_2 ≤ 8) (i9 : ∀ q : Nat, (q : Int) < l2_2 → dt5 102 q = 1), (9 - l2_2).toNat < k_ → GO (am_XX L xs sio) (d + 5) 224 2 [some (.inr (.inr (some 79))), some (.inl p1), some (.inl l2_2), none, none] [] (SH, dt5) (fun r w2 => ∃ dt2 : Nat → Nat → Int, w2 = (SH, dt2) ∧ InvC dt2 ∧ Fr [88, 89, 90, 91, 92, 93, 94, 95, 96, 97, 98, 99, 100, 102] dt dt2 ∧ ((r = none ∧ (PB (dt2 102) 12)))) := by
    intro k_
    induction k_ with
    | zero => intro l2_2 dt5 hI6 hF7 i8 i9 hm; exact absurd hm (Nat.not_lt_zero _)
    | succ k_ ih_loop10 =>
      intro l2_2 dt5 hI6 hF7 i8 i9 hm
      refine go_ifq PM224 (k := 2) (p1 := 21) (p2 := 8) (L' := [some (.inr (.inr (some 79))), some (.inl p1), some (.inl l2_2), none, none]) (st' := []) (w' := (SH, dt5)) rfl (c_ge (a := l2_2) (b := 8) (by first | exact bnd i8 (by decide) (by decide) | exact ⟨by fail, by fail⟩) ⟨by decide, by decide⟩) (fun c11 => ?_) (fun c11 => ?_)
      · skip
        refine go_toq PM224 (k := 4) (pc' := 25) (L' := [some (.inr (.inr (some 79))), some (.inl p1), some (.inl 0), some (.inl 0), none]) (st' := []) (w' := (SH, dt5)) rfl ?_
        have loop58 : ∀ (k_ : Nat) (l25_2 : Int) (l25_3 : Int) (dt52 : Nat → Nat → Int) (hI53 : InvC dt52) (hF54 : Fr [88, 89, 90, 91, 92, 93, 94, 95, 96, 97, 98, 99, 100, 102] dt dt52) (i55 : 0 ≤ l25_2 ∧ l25_2 ≤ 12) (i56 : 0 ≤ l25_3 ∧ l25_3 ≤ 300) (i57 : PB (dt52 102) l25_2), (301 - l25_3).toNat < k_ → GO (am_XX L xs sio) (d + 5) 224 25 [some (.inr (.inr (some 79))), some (.inl p1), some (.inl l25_2), some (.inl l25_3), none] [] (SH, dt52) (fun r w2 => ∃ dt2 : Nat → Nat → Int, w2 = (SH, dt2) ∧ InvC dt2 ∧ Fr [88, 89, 90, 91, 92, 93, 94, 95, 96, 97, 98, 99, 100, 102] dt dt2 ∧ ((r = none ∧ (PB (dt2 102) 12)))) := by
          intro k_
          induction k_ with
          | zero => intro l25_2 l25_3 dt52 hI53 hF54 i55 i56 i57 hm; exact absurd hm (Nat.not_lt_zero _)
          | succ k_ ih_loop58 =>
            intro l25_2 l25_3 dt52 hI53 hF54 i55 i56 i57 hm
            have hPB := i57
            refine go_toq PM224 (k := 4) (pc' := 31) (L' := [some (.inr (.inr (some 79))), some (.inl p1), some (.inl l25_2), some (.inl l25_3), none]) (st' := [.inl 3, .inr (.inr (some 80)), .inl l25_3]) (w' := (SH, dt52)) rfl ?_
            have r59 : (-2147483648) ≤ dt 80 3 ∧ dt 80 3 ≤ 2147483647 := InvC_get hI 80 3 rfl rfl
            have r60 := MW_n hM
            refine go_smpq PM224 (L' := [some (.inr (.inr (some 79))), some (.inl p1), some (.inl l25_2), some (.inl l25_3), none]) (st' := [.inl (dt 80 3), .inl l25_3]) (w' := (SH, dt52)) rfl rfl (s_ev (s_iald (n := 7460) (f := dt52 80) rfl ⟨by decide, by decide⟩) (hF54 80 (by decide) _)) ?_
            refine go_ifq PM224 (k := 0) (p1 := 132) (p2 := 35) (L' := [some (.inr (.inr (some 79))), some (.inl p1), some (.inl l25_2), some (.inl l25_3), none]) (st' := []) (w' := (SH, dt52)) rfl (c_ge (a := l25_3) (b := dt 80 3) (by first | exact bnd i56 (by decide) (by decide) | exact ⟨by fail, by fail⟩) (by first | exact bnd r59 (by decide) (by decide) | exact ⟨by fail, by fail⟩)) (fun c61 => ?_) (fun c61 => ?_)
            · skip
              refine go_retq PM224 (k := 0) (r := none) (w1 := (SH, dt52)) rfl ?_
              exact ⟨dt52, rfl, hI53, hF54, ⟨rfl, by exact PB_mono (by assumption) ⟨by omega, by omega⟩ rfl⟩⟩
            · skip
              refine go_ifq PM224 (k := 2) (p1 := 132) (p2 := 41) (L' := [some (.inr (.inr (some 79))), some (.inl p1), some (.inl l25_2), some (.inl l25_3), none]) (st' := []) (w' := (SH, dt52)) rfl (c_ge (a := l25_2) (b := 12) (by first | exact bnd i55 (by decide) (by decide) | exact ⟨by fail, by fail⟩) ⟨by decide, by decide⟩) (fun c62 => ?_) (fun c62 => ?_)
              · skip
                refine go_retq PM224 (k := 0) (r := none) (w1 := (SH, dt52)) rfl ?_
                exact ⟨dt52, rfl, hI53, hF54, ⟨rfl, by exact PB_mono (by assumption) ⟨by omega, by omega⟩ rfl⟩⟩
              · skip
                refine go_toq PM224 (k := 3) (pc' := 44) (L' := [some (.inr (.inr (some 79))), some (.inl p1), some (.inl l25_2), some (.inl l25_3), none]) (st' := [.inl 0, .inl l25_3, .inr (.inr (some 79))]) (w' := (SH, dt52)) rfl ?_
                refine go_callq PM224 PM209 (Q' := _) rfl rfl rfl rfl (sp_X6_ofAnswer_0 L xs sio (d + 4) dt52 hI53 (MW_fr hM hF54 (by decide))  l25_3 (by first | exact bnd i56 (by decide) (by decide) | exact bndd i56 c61 (by decide) (by decide) | exact ⟨by omega, by omega⟩) ) ?_
                rintro _ _ ⟨rfl, h63⟩
                refine ⟨rfl, ?_⟩
                rcases h63 with ⟨rfl, h63⟩
                refine go_ifq PM224 (k := 1) (p1 := 54) (p2 := 51) (L' := [some (.inr (.inr (some 79))), some (.inl p1), some (.inl l25_2), some (.inl l25_3), none]) (st' := []) (w' := (SH, dt52)) rfl (c_eq (a := dt52 80 (((5540 + (6 * l25_3)) + 0)).toNat) (b := p1) ⟨by omega, by omega⟩ (by first | exact bnd h_p1 (by decide) (by decide) | exact ⟨by fail, by fail⟩)) (fun c64 => ?_) (fun c64 => ?_)
                · skip
                  refine go_toq PM224 (k := 6) (pc' := 62) (L' := [some (.inr (.inr (some 79))), some (.inl p1), some (.inl (l25_2 + 1)), some (.inl l25_3), none]) (st' := [.inl 1, .inl l25_3, .inr (.inr (some 79)), .inr (.inr (some 79)), .inr (.inr (some 79))]) (w' := (SH, dt52)) rfl ?_
                  refine go_callq PM224 PM209 (Q' := _) rfl rfl rfl rfl (sp_X6_ofAnswer_1 L xs sio (d + 4) dt52 hI53 (MW_fr hM hF54 (by decide))  l25_3 (by first | exact bnd i56 (by decide) (by decide) | exact bndd i56 c61 (by decide) (by decide) | exact ⟨by omega, by omega⟩) ) ?_
                  rintro _ _ ⟨rfl, h65⟩
                  refine ⟨rfl, ?_⟩
                  rcases h65 with ⟨rfl, h65⟩
                  refine go_toq PM224 (k := 1) (pc' := 66) (L' := [some (.inr (.inr (some 79))), some (.inl p1), some (.inl (l25_2 + 1)), some (.inl l25_3), none]) (st' := [.inl 0, .inl (dt52 80 (((5540 + (6 * l25_3)) + 1)).toNat), .inr (.inr (some 79)), .inr (.inr (some 79))]) (w' := (SH, dt52)) rfl ?_
                  refine go_callq PM224 PM191 (Q' := _) rfl rfl rfl rfl (sp_X6_asked_0 L xs sio (d + 4) dt52 hI53 (MW_fr hM hF54 (by decide))  (dt52 80 (((5540 + (6 * l25_3)) + 1)).toNat) ⟨by omega, by omega⟩ ) ?_
                  rintro _ _ ⟨rfl, h66⟩
                  refine ⟨rfl, ?_⟩
                  rcases h66 with ⟨rfl, h66⟩
                  refine go_callq PM224 PM184 (Q' := _) rfl rfl rfl rfl (sp_X6_goes L xs sio (d + 0) dt52 hI53 (MW_fr hM hF54 (by decide))  (dt52 80 (((5320 + (5 * (dt52 80 (((5540 + (6 * l25_3)) + 1)).toNat))) + 0)).toNat) ⟨by omega, by omega⟩ ) ?_
                  rintro _ _ ⟨dt68, rfl, hI69, hF70, h67⟩
                  refine ⟨rfl, ?_⟩
                  have hF71 : Fr [88, 89, 90, 91, 92, 93, 94, 95, 96, 97, 98, 99, 100, 102] dt dt68 := Fr_tr hF54 hF70 (by decide)
                  rcases h67 with ⟨rfl, h67⟩
                  have PB72 : PB (dt68 102) l25_2 := PB_fr hPB hF70 (by decide)
                  refine go_toq PM224 (k := 2) (pc' := 75) (L' := [some (.inr (.inr (some 79))), some (.inl p1), some (.inl (l25_2 + 1)), some (.inl l25_3), some (.inl 0)]) (st' := []) (w' := (SH, dt68)) rfl ?_
                  have loop90 : ∀ (k_ : Nat) (l75_4 : Int) (dt85 : Nat → Nat → Int) (hI86 : InvC dt85) (hF87 : Fr [88, 89, 90, 91, 92, 93, 94, 95, 96, 97, 98, 99, 100, 102] dt dt85) (i88 : 0 ≤ l75_4 ∧ l75_4 ≤ 8) (i89 : PBI (dt85 102) (l25_2 + 1) l75_4), (9 - l75_4).toNat < k_ → GO (am_XX L xs sio) (d + 5) 224 75 [some (.inr (.inr (some 79))), some (.inl p1), some (.inl (l25_2 + 1)), some (.inl l25_3), some (.inl l75_4)] [] (SH, dt85) (fun r w2 => ∃ dt2 : Nat → Nat → Int, w2 = (SH, dt2) ∧ InvC dt2 ∧ Fr [88, 89, 90, 91, 92, 93, 94, 95, 96, 97, 98, 99, 100, 102] dt dt2 ∧ ((r = none ∧ (PB (dt2 102) 12)))) := by
                    intro k_
                    induction k_ with
                    | zero => intro l75_4 dt85 hI86 hF87 i88 i89 hm; exact absurd hm (Nat.not_lt_zero _)
                    | succ k_ ih_loop90 =>
                      intro l75_4 dt85 hI86 hF87 i88 i89 hm
                      have hPBI := i89
                      refine go_ifq PM224 (k := 2) (p1 := 126) (p2 := 82) (L' := [some (.inr (.inr (some 79))), some (.inl p1), some (.inl (l25_2 + 1)), some (.inl l25_3), some (.inl l75_4)]) (st' := []) (w' := (SH, dt85)) rfl (c_ge (a := l75_4) (b := 8) (by first | exact bnd i88 (by decide) (by decide) | exact ⟨by fail, by fail⟩) ⟨by decide, by decide⟩) (fun c91 => ?_) (fun c91 => ?_)
                      · skip
                        refine go_toq PM224 (k := 2) (pc' := 25) (L' := [some (.inr (.inr (some 79))), some (.inl p1), some (.inl (l25_2 + 1)), some (.inl (l25_3 + 1)), some (.inl l75_4)]) (st' := []) (w' := (SH, dt85)) rfl ?_
                        exact GO.le (ih_loop58 (l25_2 + 1) (l25_3 + 1) dt85 hI86 hF87 (by first | exact bndp i55 (by decide) (by decide) | exact bnde i55 c62 (by decide) (by decide) | fail) (by first | exact bndp i56 (by decide) (by decide) | exact bnde i56 c61 (by decide) (by decide) | omega) (by first | assumption | exact PB72 | exact PBO_8 (by assumption) (by omega) | exact PBI_8 (by assumption) (by omega)) (by omega)) ⟨.inl rfl, .inl rfl, .inl rfl, .inl rfl, .inr ⟨rfl, trivial⟩, trivial⟩
                      · skip
                        refine go_toq PM224 (k := 4) (pc' := 89) (L' := [some (.inr (.inr (some 79))), some (.inl p1), some (.inl (l25_2 + 1)), some (.inl l25_3), some (.inl l75_4)]) (st' := [.inl l75_4, .inr (.inr (some 102)), .inl l75_4, .inr (.inr (some 102))]) (w' := (SH, dt85)) rfl ?_
                        have r92 : (-9223372036854775808) ≤ dt85 102 (l75_4).toNat ∧ dt85 102 (l75_4).toNat ≤ 9223372036854775807 := InvC_get hI86 102 (l75_4).toNat rfl rfl
                        refine go_smpq PM224 (L' := [some (.inr (.inr (some 79))), some (.inl p1), some (.inl (l25_2 + 1)), some (.inl l25_3), some (.inl l75_4)]) (st' := [.inr (.inl (dt85 102 (l75_4).toNat)), .inl l75_4, .inr (.inr (some 102))]) (w' := (SH, dt85)) rfl rfl (s_lald (n := 8) (f := dt85 102) rfl (by first | exact bndc i88 c91 (by decide) (by decide) | exact bndx i88 (by decide) (by decide) | exact ⟨by fail, by fail⟩)) ?_
                        refine go_toq PM224 (k := 4) (pc' := 94) (L' := [some (.inr (.inr (some 79))), some (.inl p1), some (.inl (l25_2 + 1)), some (.inl l25_3), some (.inl l75_4)]) (st' := [.inl 1, .inl l25_3, .inr (.inr (some 79)), .inr (.inr (some 79)), .inr (.inl (dt85 102 (l75_4).toNat)), .inl l75_4, .inr (.inr (some 102))]) (w' := (SH, dt85)) rfl ?_
                        refine go_callq PM224 PM209 (Q' := _) rfl rfl rfl rfl (sp_X6_ofAnswer_1 L xs sio (d + 4) dt85 hI86 (MW_fr hM hF87 (by decide))  l25_3 (by first | exact bnd i56 (by decide) (by decide) | exact bndd i56 c61 (by decide) (by decide) | exact ⟨by omega, by omega⟩) ) ?_
                        rintro _ _ ⟨rfl, h93⟩
                        refine ⟨rfl, ?_⟩
                        rcases h93 with ⟨rfl, h93⟩
                        refine go_toq PM224 (k := 1) (pc' := 99) (L' := [some (.inr (.inr (some 79))), some (.inl p1), some (.inl (l25_2 + 1)), some (.inl l25_3), some (.inl l75_4)]) (st' := [.inl l75_4, .inl (dt85 80 (((5540 + (6 * l25_3)) + 1)).toNat), .inr (.inr (some 79)), .inr (.inl (dt85 102 (l75_4).toNat)), .inl l75_4, .inr (.inr (some 102))]) (w' := (SH, dt85)) rfl ?_
                        refine go_callq PM224 PM194 (Q' := _) rfl rfl rfl rfl (sp_X6_saysNow L xs sio (d + 3) dt85 hI86 (MW_fr hM hF87 (by decide))  (dt85 80 (((5540 + (6 * l25_3)) + 1)).toNat) ⟨by omega, by omega⟩ l75_4 (by first | exact bnd i88 (by decide) (by decide) | exact bndd i88 c91 (by decide) (by decide) | exact ⟨by fail, by fail⟩) ) ?_
                        rintro _ _ ⟨rfl, h94⟩
                        refine ⟨rfl, ?_⟩
                        rcases h94 with ⟨v_h94, rfl, h94r, h94⟩
                        refine go_toq PM224 (k := 3) (pc' := 105) (L' := [some (.inr (.inr (some 79))), some (.inl p1), some (.inl (l25_2 + 1)), some (.inl l25_3), some (.inl l75_4)]) (st' := [.inl 3, .inl l25_3, .inr (.inr (some 79)), .inl v_h94, .inr (.inl (dt85 102 (l75_4).toNat)), .inl l75_4, .inr (.inr (some 102))]) (w' := (SH, dt85)) rfl ?_
                        refine go_callq PM224 PM209 (Q' := _) rfl rfl rfl rfl (sp_X6_ofAnswer_3 L xs sio (d + 4) dt85 hI86 (MW_fr hM hF87 (by decide))  l25_3 (by first | exact bnd i56 (by decide) (by decide) | exact bndd i56 c61 (by decide) (by decide) | exact ⟨by omega, by omega⟩) ) ?_
                        rintro _ _ ⟨rfl, h95⟩
                        refine ⟨rfl, ?_⟩
                        rcases h95 with ⟨rfl, h95⟩
                        refine go_ifq PM224 (k := 0) (p1 := 117) (p2 := 111) (L' := [some (.inr (.inr (some 79))), some (.inl p1), some (.inl (l25_2 + 1)), some (.inl l25_3), some (.inl l75_4)]) (st' := [.inr (.inl (dt85 102 (l75_4).toNat)), .inl l75_4, .inr (.inr (some 102))]) (w' := (SH, dt85)) rfl (c_ne (a := v_h94) (b := dt85 80 (((5540 + (6 * l25_3)) + 3)).toNat) (by first | exact bnd h94r (by decide) (by decide) | exact ⟨by fail, by fail⟩) ⟨by omega, by omega⟩) (fun c96 => ?_) (fun c96 => ?_)
                        · skip
                          replace c96 := hid c96
                          refine go_toq PM224 (k := 2) (pc' := 119) (L' := [some (.inr (.inr (some 79))), some (.inl p1), some (.inl (l25_2 + 1)), some (.inl l25_3), some (.inl l75_4)]) (st' := [.inr (.inl ((dt85 102 (l75_4).toNat) * 1)), .inl l75_4, .inr (.inr (some 102))]) (w' := (SH, dt85)) rfl ?_
                          have hI97 : InvC (u2 dt85 102 (l75_4).toNat ((dt85 102 (l75_4).toNat) * 1)) := InvC_u2 hI86 (lo := -9223372036854775808) (hi := 9223372036854775807) rfl rfl rfl (by omega) (by omega)
                          have hF98 : Fr [88, 89, 90, 91, 92, 93, 94, 95, 96, 97, 98, 99, 100, 102] dt (u2 dt85 102 (l75_4).toNat ((dt85 102 (l75_4).toNat) * 1)) := Fr_u2 hF87 (by decide)
                          refine go_smpq PM224 (L' := [some (.inr (.inr (some 79))), some (.inl p1), some (.inl (l25_2 + 1)), some (.inl l25_3), some (.inl l75_4)]) (st' := []) (w' := (SH, (u2 dt85 102 (l75_4).toNat ((dt85 102 (l75_4).toNat) * 1)))) rfl rfl (s_last (n := 8) rfl (by first | exact bndc i88 c91 (by decide) (by decide) | exact bndx i88 (by decide) (by decide) | exact ⟨by fail, by fail⟩) ⟨by omega, by omega⟩) ?_
                          refine go_toq PM224 (k := 2) (pc' := 75) (L' := [some (.inr (.inr (some 79))), some (.inl p1), some (.inl (l25_2 + 1)), some (.inl l25_3), some (.inl (l75_4 + 1))]) (st' := []) (w' := (SH, (u2 dt85 102 (l75_4).toNat ((dt85 102 (l75_4).toNat) * 1)))) rfl ?_
                          exact GO.le (ih_loop90 (l75_4 + 1) (u2 dt85 102 (l75_4).toNat ((dt85 102 (l75_4).toNat) * 1)) hI97 hF98 (by first | exact bndp i88 (by decide) (by decide) | exact bnde i88 c91 (by decide) (by decide) | fail) (by first | exact PBI_0 (by assumption) (by omega) (by fail) | exact PBI_s hPBI ⟨by omega, by omega⟩ ⟨by omega, by omega⟩ (Or.inl rfl) rfl | exact PBI_s hPBI ⟨by omega, by omega⟩ ⟨by omega, by omega⟩ (Or.inr rfl) rfl | exact PBI_s1 hPBI ⟨by omega, by omega⟩ ⟨by omega, by omega⟩ rfl) (by omega)) ⟨.inl rfl, .inl rfl, .inl rfl, .inl rfl, .inl rfl, trivial⟩
                        · skip
                          refine go_toq PM224 (k := 3) (pc' := 119) (L' := [some (.inr (.inr (some 79))), some (.inl p1), some (.inl (l25_2 + 1)), some (.inl l25_3), some (.inl l75_4)]) (st' := [.inr (.inl ((dt85 102 (l75_4).toNat) * 9)), .inl l75_4, .inr (.inr (some 102))]) (w' := (SH, dt85)) rfl ?_
                          have r99 := wl_RR ((dt85 102 (l75_4).toNat) * 9)
                          have hI100 : InvC (u2 dt85 102 (l75_4).toNat (wl ((dt85 102 (l75_4).toNat) * 9))) := InvC_u2 hI86 (lo := -9223372036854775808) (hi := 9223372036854775807) rfl rfl rfl (by omega) (by omega)
                          have hF101 : Fr [88, 89, 90, 91, 92, 93, 94, 95, 96, 97, 98, 99, 100, 102] dt (u2 dt85 102 (l75_4).toNat (wl ((dt85 102 (l75_4).toNat) * 9))) := Fr_u2 hF87 (by decide)
                          refine go_smpq PM224 (L' := [some (.inr (.inr (some 79))), some (.inl p1), some (.inl (l25_2 + 1)), some (.inl l25_3), some (.inl l75_4)]) (st' := []) (w' := (SH, (u2 dt85 102 (l75_4).toNat (wl ((dt85 102 (l75_4).toNat) * 9))))) rfl rfl (s_lastw (n := 8) rfl (by first | exact bndc i88 c91 (by decide) (by decide) | exact bndx i88 (by decide) (by decide) | exact ⟨by fail, by fail⟩)) ?_
                          refine go_toq PM224 (k := 2) (pc' := 75) (L' := [some (.inr (.inr (some 79))), some (.inl p1), some (.inl (l25_2 + 1)), some (.inl l25_3), some (.inl (l75_4 + 1))]) (st' := []) (w' := (SH, (u2 dt85 102 (l75_4).toNat (wl ((dt85 102 (l75_4).toNat) * 9))))) rfl ?_
                          exact GO.le (ih_loop90 (l75_4 + 1) (u2 dt85 102 (l75_4).toNat (wl ((dt85 102 (l75_4).toNat) * 9))) hI100 hF101 (by first | exact bndp i88 (by decide) (by decide) | exact bnde i88 c91 (by decide) (by decide) | fail) (by first | exact PBI_0 (by assumption) (by omega) (by fail) | exact PBI_s hPBI ⟨by omega, by omega⟩ ⟨by omega, by omega⟩ (Or.inl rfl) rfl | exact PBI_s hPBI ⟨by fail, by fail⟩ ⟨by fail, by fail⟩ (Or.inr rfl) rfl | exact PBI_s1 hPBI ⟨by fail, by fail⟩ ⟨by fail, by fail⟩ rfl) (by omega)) ⟨.inl rfl, .inl rfl, .inl rfl, .inl rfl, .inl rfl, trivial⟩
                  exact GO.le (loop90 _ 0 dt68 hI69 hF71 ⟨by decide, by decide⟩ (by first | exact PBI_0 (by assumption) (by omega) (by omega) | exact PBI_s PB72I ⟨by fail, by fail⟩ ⟨by fail, by fail⟩ (Or.inl rfl) rfl | exact PBI_s PB72I ⟨by fail, by fail⟩ ⟨by fail, by fail⟩ (Or.inr rfl) rfl | exact PBI_s1 PB72I ⟨by fail, by fail⟩ ⟨by fail, by fail⟩ rfl) (Nat.lt_succ_self _)) ⟨.inl rfl, .inl rfl, .inl rfl, .inl rfl, .inl rfl, trivial⟩
                · skip
                  replace c64 := hid c64
                  refine go_toq PM224 (k := 3) (pc' := 25) (L' := [some (.inr (.inr (some 79))), some (.inl p1), some (.inl l25_2), some (.inl (l25_3 + 1)), none]) (st' := []) (w' := (SH, dt52)) rfl ?_
                  exact GO.le (ih_loop58 l25_2 (l25_3 + 1) dt52 hI53 hF54 (by first | exact bnd i55 (by decide) (by decide) | fail) (by first | exact bndp i56 (by decide) (by decide) | exact bnde i56 c61 (by decide) (by decide) | omega) (by first | assumption | exact hPB | exact PBO_8 (by assumption) (by fail) | exact PBI_8 (by assumption) (by fail)) (by omega)) ⟨.inl rfl, .inl rfl, .inl rfl, .inl rfl, .inl rfl, trivial⟩
        exact GO.le (loop58 _ 0 0 dt5 hI6 hF7 ⟨by decide, by decide⟩ ⟨by decide, by decide⟩ (by first | assumption | exact $PB | exact PBO_8 (by assumption) (by omega) | exact PBI_8 (by assumption) (by fail)) (Nat.lt_succ_self _)) ⟨.inl rfl, .inl rfl, .inl rfl, .inl rfl, .inl rfl, trivial⟩
      · skip
        refine go_toq PM224 (k := 4) (pc' := 14) (L' := [some (.inr (.inr (some 79))), some (.inl p1), some (.inl l2_2), none, none]) (st' := [.inr (.inl 1), .inl l2_2, .inr (.inr (some 102))]) (w' := (SH, dt5)) rfl ?_
        have hI102 : InvC (u2 dt5 102 (l2_2).toNat 1) := InvC_u2 hI6 (lo := -9223372036854775808) (hi := 9223372036854775807) rfl rfl rfl (by decide) (by decide)
        have hF103 : Fr [88, 89, 90, 91, 92, 93, 94, 95, 96, 97, 98, 99, 100, 102] dt (u2 dt5 102 (l2_2).toNat 1) := Fr_u2 hF7 (by decide)
        refine go_smpq PM224 (L' := [some (.inr (.inr (some 79))), some (.inl p1), some (.inl l2_2), none, none]) (st' := []) (w' := (SH, (u2 dt5 102 (l2_2).toNat 1))) rfl rfl (s_last (n := 8) rfl (by first | exact bndc i8 c11 (by decide) (by decide) | exact bndx i8 (by decide) (by decide) | exact ⟨by fail, by fail⟩) ⟨by omega, by omega⟩) ?_
        refine go_toq PM224 (k := 2) (pc' := 2) (L' := [some (.inr (.inr (some 79))), some (.inl p1), some (.inl (l2_2 + 1)), none, none]) (st' := []) (w' := (SH, (u2 dt5 102 (l2_2).toNat 1))) rfl ?_
        exact GO.le (ih_loop10 (l2_2 + 1) (u2 dt5 102 (l2_2).toNat 1) hI102 hF103 (by first | exact bndp i8 (by decide) (by decide) | exact bnde i8 c11 (by decide) (by decide) | fail) (by first | exact PBO_0 | exact PBO_s (by assumption) (by omega)) (by omega)) ⟨.inl rfl, .inl rfl, .inl rfl, .inl rfl, .inl rfl, trivial⟩
  exact GO.le (loop10 _ 0 dt hI hF ⟨by decide, by decide⟩ (by first | exact PBO_0 | exact PBO_s (by assumption) (by fail)) (Nat.lt_succ_self _)) ⟨.inl rfl, .inl rfl, .inl rfl, .inl rfl, .inl rfl, trivial⟩
set_option maxRecDepth 20000 in
theorem sp_X6_oddsNow (L : Nat) (xs : Nat → Int32) (sio : Option Nat) (d : Nat) (dt : Nat → Nat → Int) (hI : InvC dt)  (p1 : Int) (h_p1 : 0 ≤ p1 ∧ p1 ≤ 7) (h_p0 : PB (dt 102) 12) : GO (am_XX L xs sio) (d) 225 0 [some (.inr (.inr (some 79))), some (.inl p1), none, none, none] [] (SH, dt) (fun r w2 => w2 = (SH, dt) ∧ ((∃ v : Int, r = some (.inl v) ∧ True ∧ True))) := by
  refine go_toq PM225 (k := 4) (pc' := 5) (L' := [some (.inr (.inr (some 79))), some (.inl p1), some (.inr (.inl 0)), none, some (.inl 0)]) (st' := []) (w' := (SH, dt)) rfl ?_
  have loop8 : ∀ (k_ : Nat) (l5_2 : Int) (l5_4 : Int) (i4 : 0 ≤ l5_2 ∧ l5_2 ≤ 2259436291848) (i5 : 0 ≤ l5_4 ∧ l5_4 ≤ 8) (i6 : l5_4 ≤ l5_2) (i7 : l5_2 ≤ 282429536481 * l5_4), (9 - l5_4).toNat < k_ → GO (am_XX L xs sio) (d) 225 5 [some (.inr (.inr (some 79))), some (.inl p1), some (.inr (.inl l5_2)), none, some (.inl l5_4)] [] (SH, dt) (fun r w2 => w2 = (SH, dt) ∧ ((∃ v : Int, r = some (.inl v) ∧ True ∧ True))) := by
    intro k_
    induction k_ with
    | zero => intro l5_2 l5_4 i4 i5 i6 i7 hm; exact absurd hm (Nat.not_lt_zero _)
    | succ k_ ih_loop8 =>
      intro l5_2 l5_4 i4 i5 i6 i7 hm
      have hp9 : p9 (12 : Int).toNat = 282429536481 := (by decide +kernel)
      have hp : l5_4 < 8 → _ := fun z => h_p0 (l5_4).toNat (by omega)
      refine go_ifq PM225 (k := 2) (p1 := 28) (p2 := 12) (L' := [some (.inr (.inr (some 79))), some (.inl p1), some (.inr (.inl l5_2)), none, some (.inl l5_4)]) (st' := []) (w' := (SH, dt)) rfl (c_ge (a := l5_4) (b := 8) (by first | exact bnd i5 (by decide) (by decide) | exact ⟨by fail, by fail⟩) ⟨by decide, by decide⟩) (fun c9 => ?_) (fun c9 => ?_)
      · skip
        refine go_toq PM225 (k := 4) (pc' := 36) (L' := [some (.inr (.inr (some 79))), some (.inl p1), some (.inr (.inl l5_2)), none, some (.inl l5_4)]) (st' := [.inl p1, .inr (.inr (some 102)), .inr (.inl 1000)]) (w' := (SH, dt)) rfl ?_
        have r10 : (-9223372036854775808) ≤ dt 102 (p1).toNat ∧ dt 102 (p1).toNat ≤ 9223372036854775807 := InvC_get hI 102 (p1).toNat rfl rfl
        refine go_smpq PM225 (L' := [some (.inr (.inr (some 79))), some (.inl p1), some (.inr (.inl l5_2)), none, some (.inl l5_4)]) (st' := [.inr (.inl (dt 102 (p1).toNat)), .inr (.inl 1000)]) (w' := (SH, dt)) rfl rfl (s_lald (n := 8) (f := dt 102) rfl (by first | exact bndx h_p1 (by decide) (by decide) | exact ⟨by fail, by fail⟩)) ?_
        refine go_toq PM225 (k := 2) (pc' := 39) (L' := [some (.inr (.inr (some 79))), some (.inl p1), some (.inr (.inl l5_2)), none, some (.inl l5_4)]) (st' := [.inr (.inl l5_2), .inr (.inl (1000 * (dt 102 (p1).toNat)))]) (w' := (SH, dt)) rfl ?_
        refine go_smpq PM225 (L' := [some (.inr (.inr (some 79))), some (.inl p1), some (.inr (.inl l5_2)), none, some (.inl l5_4)]) (st' := [.inr (.inl ((wl (1000 * (dt 102 (p1).toNat))).tdiv (wl l5_2)))]) (w' := (SH, dt)) rfl rfl (s_ldiv (by rw [wl_id (by omega) (by omega)]; omega)) ?_
        refine go_retq PM225 (k := 1) (r := some (.inl ((wl (1000 * (dt 102 (p1).toNat))).tdiv (wl l5_2)))) (w1 := (SH, dt)) rfl ?_
        exact ⟨rfl, ⟨_, rfl, trivial, trivial⟩⟩
      · skip
        refine go_toq PM225 (k := 4) (pc' := 19) (L' := [some (.inr (.inr (some 79))), some (.inl p1), some (.inr (.inl l5_2)), none, some (.inl l5_4)]) (st' := [.inl l5_4, .inr (.inr (some 102)), .inr (.inl l5_2)]) (w' := (SH, dt)) rfl ?_
        have r11 : (-9223372036854775808) ≤ dt 102 (l5_4).toNat ∧ dt 102 (l5_4).toNat ≤ 9223372036854775807 := InvC_get hI 102 (l5_4).toNat rfl rfl
        refine go_smpq PM225 (L' := [some (.inr (.inr (some 79))), some (.inl p1), some (.inr (.inl l5_2)), none, some (.inl l5_4)]) (st' := [.inr (.inl (dt 102 (l5_4).toNat)), .inr (.inl l5_2)]) (w' := (SH, dt)) rfl rfl (s_lald (n := 8) (f := dt 102) rfl (by first | exact bndc i5 c9 (by decide) (by decide) | exact bndx i5 (by decide) (by decide) | exact ⟨by fail, by fail⟩)) ?_
        refine go_toq PM225 (k := 4) (pc' := 5) (L' := [some (.inr (.inr (some 79))), some (.inl p1), some (.inr (.inl (l5_2 + (dt 102 (l5_4).toNat)))), none, some (.inl (l5_4 + 1))]) (st' := []) (w' := (SH, dt)) rfl ?_
        exact GO.le (ih_loop8 (l5_2 + (dt 102 (l5_4).toNat)) (l5_4 + 1) (by omega) (by first | exact bndp i5 (by decide) (by decide) | exact bnde i5 c9 (by decide) (by decide) | fail) (by omega) (by omega) (by omega)) ⟨.inl rfl, .inl rfl, .inl rfl, .inl rfl, .inl rfl, trivial⟩
  exact GO.le (loop8 _ 0 0 ⟨by decide, by decide⟩ ⟨by decide, by decide⟩ (by omega) (by omega) (Nat.lt_succ_self _)) ⟨.inl rfl, .inl rfl, .inl rfl, .inl rfl, .inl rfl, trivial⟩
set_option maxRecDepth 20000 in
theorem sp_X6_itsRule (L : Nat) (xs : Nat → Int32) (sio : Option Nat) (d : Nat) (dt : Nat → Nat → Int) (hI : InvC dt) (hM : MW (dt 80))  (p1 : Int) (h_p1 : 0 ≤ p1 ∧ p1 ≤ 39)  : GO (am_XX L xs sio) (d + 6) 226 0 [some (.inr (.inr (some 79))), some (.inl p1), none, none] [] (SH, dt) (fun r w2 => ∃ dt2 : Nat → Nat → Int, w2 = (SH, dt2) ∧ InvC dt2 ∧ Fr [88, 89, 90, 91, 92, 93, 94, 95, 96, 97, 98, 99, 100, 102] dt dt2 ∧ ((∃ v : Int, r = some (.inl v) ∧ (0 ≤ v ∧ v ≤ 7) ∧ True))) := by
  have hF : Fr [88, 89, 90, 91, 92, 93, 94, 95, 96, 97, 98, 99, 100, 102] dt dt := Fr_refl
  refine go_toq PM226 (k := 2) (pc' := 2) (L' := [some (.inr (.inr (some 79))), some (.inl p1), none, none]) (st' := [.inl p1, .inr (.inr (some 79))]) (w' := (SH, dt)) rfl ?_
  refine go_callq PM226 PM224 (Q' := _) rfl rfl rfl rfl (sp_X6_multiplies L xs sio (d + 0) dt hI hM  p1 (by first | exact h_p1 | exact bnd h_p1 (by decide) (by decide) | exact ⟨by fail, by fail⟩) ) ?_
  rintro _ _ ⟨dt2, rfl, hI3, hF4, h1⟩
  refine ⟨rfl, ?_⟩
  have hF5 : Fr [88, 89, 90, 91, 92, 93, 94, 95, 96, 97, 98, 99, 100, 102] dt dt2 := Fr_tr hF hF4 (by decide)
  rcases h1 with ⟨rfl, h1⟩
  refine go_toq PM226 (k := 4) (pc' := 9) (L' := [some (.inr (.inr (some 79))), some (.inl p1), some (.inl 0), some (.inl 1)]) (st' := []) (w' := (SH, dt2)) rfl ?_
  have loop33 : ∀ (k_ : Nat) (l9_2 : Int) (l9_3 : Int) (i31 : 0 ≤ l9_2 ∧ l9_2 ≤ 7) (i32 : 1 ≤ l9_3 ∧ l9_3 ≤ 8), (9 - l9_3).toNat < k_ → GO (am_XX L xs sio) (d + 6) 226 9 [some (.inr (.inr (some 79))), none, some (.inl l9_2), some (.inl l9_3)] [] (SH, dt2) (fun r w2 => ∃ dt2 : Nat → Nat → Int, w2 = (SH, dt2) ∧ InvC dt2 ∧ Fr [88, 89, 90, 91, 92, 93, 94, 95, 96, 97, 98, 99, 100, 102] dt dt2 ∧ ((∃ v : Int, r = some (.inl v) ∧ (0 ≤ v ∧ v ≤ 7) ∧ True))) := by
    intro k_
    induction k_ with
    | zero => intro l9_2 l9_3 i31 i32 hm; exact absurd hm (Nat.not_lt_zero _)
    | succ k_ ih_loop33 =>
      intro l9_2 l9_3 i31 i32 hm
      refine go_ifq PM226 (k := 2) (p1 := 43) (p2 := 15) (L' := [some (.inr (.inr (some 79))), none, some (.inl l9_2), some (.inl l9_3)]) (st' := []) (w' := (SH, dt2)) rfl (c_ge (a := l9_3) (b := 8) (by first | exact bnd i32 (by decide) (by decide) | exact ⟨by fail, by fail⟩) ⟨by decide, by decide⟩) (fun c38 => ?_) (fun c38 => ?_)
      · skip
        refine go_retq PM226 (k := 1) (r := some (.inl l9_2)) (w1 := (SH, dt2)) rfl ?_
        exact ⟨dt2, rfl, hI3, hF5, ⟨_, rfl, (by first | exact bnd i31 (by decide) (by decide) | exact ⟨by fail, by fail⟩), trivial⟩⟩
      · skip
        refine go_toq PM226 (k := 3) (pc' := 20) (L' := [some (.inr (.inr (some 79))), none, some (.inl l9_2), some (.inl l9_3)]) (st' := [.inl l9_3, .inr (.inr (some 102))]) (w' := (SH, dt2)) rfl ?_
        have r39 : (-9223372036854775808) ≤ dt2 102 (l9_3).toNat ∧ dt2 102 (l9_3).toNat ≤ 9223372036854775807 := InvC_get hI3 102 (l9_3).toNat rfl rfl
        refine go_smpq PM226 (L' := [some (.inr (.inr (some 79))), none, some (.inl l9_2), some (.inl l9_3)]) (st' := [.inr (.inl (dt2 102 (l9_3).toNat))]) (w' := (SH, dt2)) rfl rfl (s_lald (n := 8) (f := dt2 102) rfl (by first | exact bndc i32 c38 (by decide) (by decide) | exact bndx i32 (by decide) (by decide) | exact ⟨by fail, by fail⟩)) ?_
        refine go_toq PM226 (k := 3) (pc' := 26) (L' := [some (.inr (.inr (some 79))), none, some (.inl l9_2), some (.inl l9_3)]) (st' := [.inl l9_2, .inr (.inr (some 102)), .inr (.inl (dt2 102 (l9_3).toNat))]) (w' := (SH, dt2)) rfl ?_
        have r40 : (-9223372036854775808) ≤ dt2 102 (l9_2).toNat ∧ dt2 102 (l9_2).toNat ≤ 9223372036854775807 := InvC_get hI3 102 (l9_2).toNat rfl rfl
        refine go_smpq PM226 (L' := [some (.inr (.inr (some 79))), none, some (.inl l9_2), some (.inl l9_3)]) (st' := [.inr (.inl (dt2 102 (l9_2).toNat)), .inr (.inl (dt2 102 (l9_3).toNat))]) (w' := (SH, dt2)) rfl rfl (s_lald (n := 8) (f := dt2 102) rfl (by first | exact bndx i31 (by decide) (by decide) | exact ⟨by fail, by fail⟩)) ?_
        rcases Int.lt_trichotomy (dt2 102 (l9_3).toNat) (dt2 102 (l9_2).toNat) with c41 | c41 | c41
        · refine go_smpq PM226 (L' := [some (.inr (.inr (some 79))), none, some (.inl l9_2), some (.inl l9_3)]) (st' := [.inl (-1)]) (w' := (SH, dt2)) rfl rfl (s_lcl ⟨by omega, by omega⟩ ⟨by omega, by omega⟩ c41) ?_
          refine go_toq PM226 (k := 5) (pc' := 9) (L' := [some (.inr (.inr (some 79))), none, some (.inl l9_2), some (.inl (l9_3 + 1))]) (st' := []) (w' := (SH, dt2)) rfl ?_
          exact GO.le (ih_loop33 l9_2 (l9_3 + 1) (by first | exact bnd i31 (by decide) (by decide) | fail) (by first | exact bndp i32 (by decide) (by decide) | exact bnde i32 c38 (by decide) (by decide) | fail) (by omega)) ⟨.inl rfl, .inl rfl, .inl rfl, .inl rfl, trivial⟩
        · refine go_smpq PM226 (L' := [some (.inr (.inr (some 79))), none, some (.inl l9_2), some (.inl l9_3)]) (st' := [.inl 0]) (w' := (SH, dt2)) rfl rfl (s_lce ⟨by omega, by omega⟩ ⟨by omega, by omega⟩ c41) ?_
          refine go_toq PM226 (k := 5) (pc' := 9) (L' := [some (.inr (.inr (some 79))), none, some (.inl l9_2), some (.inl (l9_3 + 1))]) (st' := []) (w' := (SH, dt2)) rfl ?_
          exact GO.le (ih_loop33 l9_2 (l9_3 + 1) (by first | exact bnd i31 (by decide) (by decide) | fail) (by first | exact bndp i32 (by decide) (by decide) | exact bnde i32 c38 (by decide) (by decide) | fail) (by omega)) ⟨.inl rfl, .inl rfl, .inl rfl, .inl rfl, trivial⟩
        · refine go_smpq PM226 (L' := [some (.inr (.inr (some 79))), none, some (.inl l9_2), some (.inl l9_3)]) (st' := [.inl 1]) (w' := (SH, dt2)) rfl rfl (s_lcg ⟨by omega, by omega⟩ ⟨by omega, by omega⟩ c41) ?_
          refine go_toq PM226 (k := 6) (pc' := 9) (L' := [some (.inr (.inr (some 79))), none, some (.inl l9_3), some (.inl (l9_3 + 1))]) (st' := []) (w' := (SH, dt2)) rfl ?_
          exact GO.le (ih_loop33 l9_3 (l9_3 + 1) (by first | exact bnd i32 (by decide) (by decide) | omega) (by first | exact bndp i32 (by decide) (by decide) | exact bnde i32 c38 (by decide) (by decide) | fail) (by omega)) ⟨.inl rfl, .inl rfl, .inl rfl, .inl rfl, trivial⟩
  exact GO.le (loop33 _ 0 1 ⟨by decide, by decide⟩ ⟨by decide, by decide⟩ (Nat.lt_succ_self _)) ⟨.inl rfl, .inr ⟨rfl, trivial⟩, .inl rfl, .inl rfl, trivial⟩
set_option maxRecDepth 20000 in
theorem sp_X6_odds (L : Nat) (xs : Nat → Int32) (sio : Option Nat) (d : Nat) (dt : Nat → Nat → Int) (hI : InvC dt) (hM : MW (dt 80))  (p1 : Int) (h_p1 : (-2147483648) ≤ p1 ∧ p1 ≤ 2147483647) (p2 : Int) (h_p2 : (-2147483648) ≤ p2 ∧ p2 ≤ 2147483647)  : GO (am_XX L xs sio) (d + 7) 227 0 [some (.inr (.inr (some 79))), some (.inl p1), some (.inl p2)] [] (SH, dt) (fun r w2 => ∃ dt2 : Nat → Nat → Int, w2 = (SH, dt2) ∧ InvC dt2 ∧ Fr [88, 89, 90, 91, 92, 93, 94, 95, 96, 97, 98, 99, 100, 102] dt dt2 ∧ ((∃ v : Int, r = some (.inl v) ∧ True ∧ True))) := by
  have hF : Fr [88, 89, 90, 91, 92, 93, 94, 95, 96, 97, 98, 99, 100, 102] dt dt := Fr_refl
  refine go_toq PM227 (k := 2) (pc' := 2) (L' := [some (.inr (.inr (some 79))), some (.inl p1), some (.inl p2)]) (st' := [.inl p1, .inr (.inr (some 79))]) (w' := (SH, dt)) rfl ?_
  refine go_callq PM227 PM199 (Q' := _) rfl rfl rfl rfl (sp_X6_isChild L xs sio (d + 5) dt hI hM  p1 (by first | exact h_p1 | exact bnd h_p1 (by decide) (by decide) | exact ⟨by fail, by fail⟩) ) ?_
  rintro _ _ ⟨rfl, h1⟩
  refine ⟨rfl, ?_⟩
  rcases h1 with ⟨rfl, h1⟩ | ⟨rfl, h1⟩
  · skip
    refine go_toq PM227 (k := 4) (pc' := 12) (L' := [some (.inr (.inr (some 79))), some (.inl p1), some (.inl p2)]) (st' := [.inl 8, .inl 0, .inl p2]) (w' := (SH, dt)) rfl ?_
    refine go_callq PM227 PM146 (Q' := _) rfl rfl rfl rfl (sp_X6_isIn L xs sio (d + 6) dt hI  p2 (by first | exact h_p2 | exact bnd h_p2 (by decide) (by decide) | exact ⟨by fail, by fail⟩) 0 ⟨by decide, by decide⟩ 8 ⟨by decide, by decide⟩ ) ?_
    rintro _ _ ⟨rfl, h2⟩
    refine ⟨rfl, ?_⟩
    rcases h2 with ⟨rfl, h2⟩ | ⟨rfl, h2⟩
    · skip
      refine go_ifq PM227 (k := 3) (p1 := 32) (p2 := 26) (L' := [some (.inr (.inr (some 79))), some (.inl p1), some (.inl p2)]) (st' := []) (w' := (SH, dt)) rfl (c_ne (a := p2) (b := 8) (by first | exact bnd h_p2 (by decide) (by decide) | exact ⟨by fail, by fail⟩) ⟨by decide, by decide⟩) (fun c3 => ?_) (fun c3 => ?_)
      · skip
        replace c3 := hid c3
        refine go_toq PM227 (k := 2) (pc' := 34) (L' := [some (.inr (.inr (some 79))), some (.inl p1), some (.inl p2)]) (st' := [.inl p1, .inr (.inr (some 79))]) (w' := (SH, dt)) rfl ?_
        refine go_callq PM227 PM224 (Q' := _) rfl rfl rfl rfl (sp_X6_multiplies L xs sio (d + 1) dt hI hM  p1 (by first | exact h_p1 | exact bnd h_p1 (by decide) (by decide) | exact ⟨by omega, by omega⟩) ) ?_
        rintro _ _ ⟨dt5, rfl, hI6, hF7, h4⟩
        refine ⟨rfl, ?_⟩
        have hF8 : Fr [88, 89, 90, 91, 92, 93, 94, 95, 96, 97, 98, 99, 100, 102] dt dt5 := Fr_tr hF hF7 (by decide)
        rcases h4 with ⟨rfl, h4⟩
        refine go_toq PM227 (k := 2) (pc' := 39) (L' := [some (.inr (.inr (some 79))), some (.inl p1), some (.inl p2)]) (st' := [.inl p2, .inr (.inr (some 79))]) (w' := (SH, dt5)) rfl ?_
        refine go_callq PM227 PM225 (Q' := _) rfl rfl rfl rfl (sp_X6_oddsNow L xs sio (d + 6) dt5 hI6  p2 (by first | exact h_p2 | exact bnd h_p2 (by decide) (by decide) | exact ⟨by omega, by (have z0_ := unhid c3; omega)⟩) (by first | exact True.intro | with_reducible assumption | exact unhid (by with_reducible assumption) | rfl | fail | trivial | assumption)) ?_
        rintro _ _ ⟨rfl, h9⟩
        refine ⟨rfl, ?_⟩
        rcases h9 with ⟨v_h9, rfl, h9r, h9⟩
        refine go_retq PM227 (k := 0) (r := some (.inl v_h9)) (w1 := (SH, dt5)) rfl ?_
        exact ⟨dt5, rfl, hI6, hF8, ⟨_, rfl, trivial, trivial⟩⟩
      · skip
        refine go_toq PM227 (k := 2) (pc' := 28) (L' := [some (.inr (.inr (some 79))), some (.inl p1), some (.inl p2)]) (st' := [.inl p1, .inr (.inr (some 79))]) (w' := (SH, dt)) rfl ?_
        refine go_callq PM227 PM226 (Q' := _) rfl rfl rfl rfl (sp_X6_itsRule L xs sio (d + 0) dt hI hM  p1 (by first | exact h_p1 | exact bnd h_p1 (by decide) (by decide) | exact ⟨by omega, by omega⟩) ) ?_
        rintro _ _ ⟨dt11, rfl, hI12, hF13, h10⟩
        refine ⟨rfl, ?_⟩
        have hF14 : Fr [88, 89, 90, 91, 92, 93, 94, 95, 96, 97, 98, 99, 100, 102] dt dt11 := Fr_tr hF hF13 (by decide)
        rcases h10 with ⟨v_h10, rfl, h10r, h10⟩
        refine go_retq PM227 (k := 0) (r := some (.inl v_h10)) (w1 := (SH, dt11)) rfl ?_
        exact ⟨dt11, rfl, hI12, hF14, ⟨_, rfl, trivial, trivial⟩⟩
    · skip
      refine go_retq PM227 (k := 2) (r := some (.inl (-1))) (w1 := (SH, dt)) rfl ?_
      exact ⟨dt, rfl, hI, hF, ⟨_, rfl, trivial, trivial⟩⟩
  · skip
    refine go_retq PM227 (k := 2) (r := some (.inl (-1))) (w1 := (SH, dt)) rfl ?_
    exact ⟨dt, rfl, hI, hF, ⟨_, rfl, trivial, trivial⟩⟩
set_option maxRecDepth 20000 in
theorem sp_X6_need (L : Nat) (xs : Nat → Int32) (sio : Option Nat) (d : Nat) (dt : Nat → Nat → Int) (hI : InvC dt) (hM : MW (dt 80))  (p1 : Int) (h_p1 : (-2147483648) ≤ p1 ∧ p1 ≤ 2147483647) (p2 : Int) (h_p2 : (-2147483648) ≤ p2 ∧ p2 ≤ 2147483647)  : GO (am_XX L xs sio) (d + 5) 228 0 [some (.inr (.inr (some 79))), some (.inl p1), some (.inl p2), none, none, none] [] (SH, dt) (fun r w2 => ∃ dt2 : Nat → Nat → Int, w2 = (SH, dt2) ∧ InvC dt2 ∧ Fr [88, 89, 90, 91, 92, 93, 94, 95, 96, 97, 98, 99, 100, 102] dt dt2 ∧ ((∃ v : Int, r = some (.inl v) ∧ ((-1) ≤ v ∧ v ≤ 12) ∧ True))) := by
  have hF : Fr [88, 89, 90, 91, 92, 93, 94, 95, 96, 97, 98, 99, 100, 102] dt dt := Fr_refl
  have r1 : (-2147483648) ≤ dt 80 1 ∧ dt 80 1 ≤ 2147483647 := InvC_get hI 80 1 rfl rfl
  have r2 := MW_n hM
  refine go_toq PM228 (k := 1) (pc' := 1) (L' := [some (.inr (.inr (some 79))), some (.inl p1), some (.inl p2), none, none, none]) (st' := [.inl p1]) (w' := (SH, dt)) rfl ?_
  refine go_callq PM228 PM217 (Q' := _) rfl rfl rfl rfl (sp_X6_isRule L xs sio (d + 3) dt hI  p1 (by first | exact h_p1 | exact bnd h_p1 (by decide) (by decide) | exact ⟨by fail, by fail⟩) ) ?_
  rintro _ _ ⟨rfl, h3⟩
  refine ⟨rfl, ?_⟩
  rcases h3 with ⟨rfl, h3⟩ | ⟨rfl, h3⟩
  · skip
    refine go_toq PM228 (k := 4) (pc' := 12) (L' := [some (.inr (.inr (some 79))), some (.inl p1), some (.inl p2), none, none, none]) (st' := [.inl 1000, .inl 1, .inl p2]) (w' := (SH, dt)) rfl ?_
    refine go_callq PM228 PM146 (Q' := _) rfl rfl rfl rfl (sp_X6_isIn L xs sio (d + 4) dt hI  p2 (by first | exact h_p2 | exact bnd h_p2 (by decide) (by decide) | exact ⟨by fail, by fail⟩) 1 ⟨by decide, by decide⟩ 1000 ⟨by decide, by decide⟩ ) ?_
    rintro _ _ ⟨rfl, h4⟩
    refine ⟨rfl, ?_⟩
    rcases h4 with ⟨rfl, h4⟩ | ⟨rfl, h4⟩
    · skip
      refine go_toq PM228 (k := 3) (pc' := 22) (L' := [some (.inr (.inr (some 79))), some (.inl p1), some (.inl p2), some (.inl 0), none, none]) (st' := []) (w' := (SH, dt)) rfl ?_
      have loop14 : ∀ (k_ : Nat) (l22_3 : Int) (dt9 : Nat → Nat → Int) (hI10 : InvC dt9) (hF11 : Fr [88, 89, 90, 91, 92, 93, 94, 95, 96, 97, 98, 99, 100, 102] dt dt9) (i12 : 0 ≤ l22_3 ∧ l22_3 ≤ 8) (i13 : ∀ q : Nat, (q : Int) < l22_3 → dt9 102 q = 1), (9 - l22_3).toNat < k_ → GO (am_XX L xs sio) (d + 5) 228 22 [some (.inr (.inr (some 79))), some (.inl p1), some (.inl p2), some (.inl l22_3), none, none] [] (SH, dt9) (fun r w2 => ∃ dt2 : Nat → Nat → Int, w2 = (SH, dt2) ∧ InvC dt2 ∧ Fr [88, 89, 90, 91, 92, 93, 94, 95, 96, 97, 98, 99, 100, 102] dt dt2 ∧ ((∃ v : Int, r = some (.inl v) ∧ ((-1) ≤ v ∧ v ≤ 12) ∧ True))) := by
        intro k_
        induction k_ with
        | zero => intro l22_3 dt9 hI10 hF11 i12 i13 hm; exact absurd hm (Nat.not_lt_zero _)
        | succ k_ ih_loop14 =>
          intro l22_3 dt9 hI10 hF11 i12 i13 hm
          refine go_ifq PM228 (k := 2) (p1 := 41) (p2 := 28) (L' := [some (.inr (.inr (some 79))), some (.inl p1), some (.inl p2), some (.inl l22_3), none, none]) (st' := []) (w' := (SH, dt9)) rfl (c_ge (a := l22_3) (b := 8) (by first | exact bnd i12 (by decide) (by decide) | exact ⟨by fail, by fail⟩) ⟨by decide, by decide⟩) (fun c15 => ?_) (fun c15 => ?_)
          · skip
            refine go_toq PM228 (k := 2) (pc' := 43) (L' := [some (.inr (.inr (some 79))), some (.inl p1), some (.inl p2), some (.inl 0), none, none]) (st' := []) (w' := (SH, dt9)) rfl ?_
            have loop58 : ∀ (k_ : Nat) (l43_3 : Int) (dt52 : Nat → Nat → Int) (hI53 : InvC dt52) (hF54 : Fr [88, 89, 90, 91, 92, 93, 94, 95, 96, 97, 98, 99, 100, 102] dt dt52) (i55 : 0 ≤ l43_3 ∧ l43_3 ≤ 13) (i56 : PB (dt52 102) l43_3) (i57 : l43_3 ≤ dt 80 1), (14 - l43_3).toNat < k_ → GO (am_XX L xs sio) (d + 5) 228 43 [some (.inr (.inr (some 79))), some (.inl p1), some (.inl p2), some (.inl l43_3), none, none] [] (SH, dt52) (fun r w2 => ∃ dt2 : Nat → Nat → Int, w2 = (SH, dt2) ∧ InvC dt2 ∧ Fr [88, 89, 90, 91, 92, 93, 94, 95, 96, 97, 98, 99, 100, 102] dt dt2 ∧ ((∃ v : Int, r = some (.inl v) ∧ ((-1) ≤ v ∧ v ≤ 12) ∧ True))) := by
              intro k_
              induction k_ with
              | zero => intro l43_3 dt52 hI53 hF54 i55 i56 i57 hm; exact absurd hm (Nat.not_lt_zero _)
              | succ k_ ih_loop58 =>
                intro l43_3 dt52 hI53 hF54 i55 i56 i57 hm
                have hPB := i56
                refine go_toq PM228 (k := 4) (pc' := 49) (L' := [some (.inr (.inr (some 79))), some (.inl p1), some (.inl p2), some (.inl l43_3), none, none]) (st' := [.inl 1, .inr (.inr (some 80)), .inl l43_3]) (w' := (SH, dt52)) rfl ?_
                refine go_smpq PM228 (L' := [some (.inr (.inr (some 79))), some (.inl p1), some (.inl p2), some (.inl l43_3), none, none]) (st' := [.inl (dt 80 1), .inl l43_3]) (w' := (SH, dt52)) rfl rfl (s_ev (s_iald (n := 7460) (f := dt52 80) rfl ⟨by decide, by decide⟩) (hF54 80 (by decide) _)) ?_
                refine go_ifq PM228 (k := 0) (p1 := 145) (p2 := 53) (L' := [some (.inr (.inr (some 79))), some (.inl p1), some (.inl p2), some (.inl l43_3), none, none]) (st' := []) (w' := (SH, dt52)) rfl (c_gt (a := l43_3) (b := dt 80 1) (by first | exact bnd i55 (by decide) (by decide) | exact ⟨by fail, by fail⟩) (by first | exact bnd r1 (by decide) (by decide) | exact ⟨by fail, by fail⟩)) (fun c59 => ?_) (fun c59 => ?_)
                · skip
                  refine go_retq PM228 (k := 1) (r := some (.inl (-1))) (w1 := (SH, dt52)) rfl ?_
                  exact ⟨dt52, rfl, hI53, hF54, ⟨_, rfl, ⟨by decide, by decide⟩, trivial⟩⟩
                · skip
                  refine go_toq PM228 (k := 2) (pc' := 55) (L' := [some (.inr (.inr (some 79))), some (.inl p1), some (.inl p2), some (.inl l43_3), none, none]) (st' := [.inl p1, .inr (.inr (some 79))]) (w' := (SH, dt52)) rfl ?_
                  refine go_callq PM228 PM225 (Q' := _) rfl rfl rfl rfl (sp_X6_oddsNow L xs sio (d + 4) dt52 hI53  p1 (by first | exact h_p1 | exact bnd h_p1 (by decide) (by decide) | exact ⟨by omega, by omega⟩) (by first | exact True.intro | with_reducible assumption | rfl | fail | trivial | exact PB_mono hPB ⟨by omega, by omega⟩ rfl)) ?_
                  rintro _ _ ⟨rfl, h60⟩
                  refine ⟨rfl, ?_⟩
                  rcases h60 with ⟨v_h60, rfl, h60r, h60⟩
                  have r62 := wr_RR v_h60
                  have r63 := wr_RR p2
                  refine go_ifq PM228 (k := 1) (p1 := 64) (p2 := 62) (L' := [some (.inr (.inr (some 79))), some (.inl p1), some (.inl p2), some (.inl l43_3), none, none]) (st' := []) (w' := (SH, dt52)) rfl (u_lt (a := wr v_h60) (b := wr p2)) (fun c61 => ?_) (fun c61 => ?_)
                  · skip
                    refine go_toq PM228 (k := 4) (pc' := 70) (L' := [some (.inr (.inr (some 79))), some (.inl p1), some (.inl p2), some (.inl l43_3), none, none]) (st' := [.inl 1, .inr (.inr (some 80)), .inl l43_3]) (w' := (SH, dt52)) rfl ?_
                    refine go_smpq PM228 (L' := [some (.inr (.inr (some 79))), some (.inl p1), some (.inl p2), some (.inl l43_3), none, none]) (st' := [.inl (dt 80 1), .inl l43_3]) (w' := (SH, dt52)) rfl rfl (s_ev (s_iald (n := 7460) (f := dt52 80) rfl ⟨by decide, by decide⟩) (hF54 80 (by decide) _)) ?_
                    refine go_ifq PM228 (k := 0) (p1 := 76) (p2 := 74) (L' := [some (.inr (.inr (some 79))), some (.inl p1), some (.inl p2), some (.inl l43_3), none, none]) (st' := []) (w' := (SH, dt52)) rfl (c_ne (a := l43_3) (b := dt 80 1) (by first | exact bnd i55 (by decide) (by decide) | exact ⟨by fail, by fail⟩) (by first | exact bnd r1 (by decide) (by decide) | exact ⟨by fail, by fail⟩)) (fun c64 => ?_) (fun c64 => ?_)
                    · skip
                      replace c64 := hid c64
                      refine go_toq PM228 (k := 4) (pc' := 80) (L' := [some (.inr (.inr (some 79))), some (.inl p1), some (.inl p2), some (.inl l43_3), none, none]) (st' := [.inl 0, .inl l43_3, .inr (.inr (some 79)), .inr (.inr (some 79))]) (w' := (SH, dt52)) rfl ?_
                      refine go_callq PM228 PM191 (Q' := _) rfl rfl rfl rfl (sp_X6_asked_0 L xs sio (d + 4) dt52 hI53 (MW_fr hM hF54 (by decide))  l43_3 (by first | exact bnd i55 (by decide) (by decide) | exact ⟨by omega, by (have z0_ := unhid c64; omega)⟩) ) ?_
                      rintro _ _ ⟨rfl, h65⟩
                      refine ⟨rfl, ?_⟩
                      rcases h65 with ⟨rfl, h65⟩
                      refine go_callq PM228 PM184 (Q' := _) rfl rfl rfl rfl (sp_X6_goes L xs sio (d + 0) dt52 hI53 (MW_fr hM hF54 (by decide))  (dt52 80 (((5320 + (5 * l43_3)) + 0)).toNat) ⟨by omega, by omega⟩ ) ?_
                      rintro _ _ ⟨dt67, rfl, hI68, hF69, h66⟩
                      refine ⟨rfl, ?_⟩
                      have hF70 : Fr [88, 89, 90, 91, 92, 93, 94, 95, 96, 97, 98, 99, 100, 102] dt dt67 := Fr_tr hF54 hF69 (by decide)
                      rcases h66 with ⟨rfl, h66⟩
                      have PB71 : PB (dt67 102) l43_3 := PB_fr hPB hF69 (by decide)
                      refine go_toq PM228 (k := 3) (pc' := 89) (L' := [some (.inr (.inr (some 79))), some (.inl p1), some (.inl p2), some (.inl l43_3), none, none]) (st' := [.inl p1, .inl l43_3, .inr (.inr (some 79))]) (w' := (SH, dt67)) rfl ?_
                      refine go_callq PM228 PM194 (Q' := _) rfl rfl rfl rfl (sp_X6_saysNow L xs sio (d + 3) dt67 hI68 (MW_fr hM hF70 (by decide))  l43_3 (by first | exact bnd i55 (by decide) (by decide) | exact ⟨by omega, by (have z0_ := unhid c64; omega)⟩) p1 (by first | exact h_p1 | exact bnd h_p1 (by decide) (by decide) | exact ⟨by omega, by omega⟩) ) ?_
                      rintro _ _ ⟨rfl, h72⟩
                      refine ⟨rfl, ?_⟩
                      rcases h72 with ⟨v_h72, rfl, h72r, h72⟩
                      refine go_toq PM228 (k := 3) (pc' := 97) (L' := [some (.inr (.inr (some 79))), some (.inl p1), some (.inl p2), some (.inl l43_3), some (.inl v_h72), some (.inl 0)]) (st' := []) (w' := (SH, dt67)) rfl ?_
                      have loop88 : ∀ (k_ : Nat) (l97_5 : Int) (dt83 : Nat → Nat → Int) (hI84 : InvC dt83) (hF85 : Fr [88, 89, 90, 91, 92, 93, 94, 95, 96, 97, 98, 99, 100, 102] dt dt83) (i86 : 0 ≤ l97_5 ∧ l97_5 ≤ 8) (i87 : PBI (dt83 102) (l43_3 + 1) l97_5), (9 - l97_5).toNat < k_ → GO (am_XX L xs sio) (d + 5) 228 97 [some (.inr (.inr (some 79))), some (.inl p1), some (.inl p2), some (.inl l43_3), some (.inl v_h72), some (.inl l97_5)] [] (SH, dt83) (fun r w2 => ∃ dt2 : Nat → Nat → Int, w2 = (SH, dt2) ∧ InvC dt2 ∧ Fr [88, 89, 90, 91, 92, 93, 94, 95, 96, 97, 98, 99, 100, 102] dt dt2 ∧ ((∃ v : Int, r = some (.inl v) ∧ ((-1) ≤ v ∧ v ≤ 12) ∧ True))) := by
                        intro k_
                        induction k_ with
                        | zero => intro l97_5 dt83 hI84 hF85 i86 i87 hm; exact absurd hm (Nat.not_lt_zero _)
                        | succ k_ ih_loop88 =>
                          intro l97_5 dt83 hI84 hF85 i86 i87 hm
                          have hPBI := i87
                          refine go_ifq PM228 (k := 2) (p1 := 139) (p2 := 104) (L' := [some (.inr (.inr (some 79))), some (.inl p1), some (.inl p2), some (.inl l43_3), some (.inl v_h72), some (.inl l97_5)]) (st' := []) (w' := (SH, dt83)) rfl (c_ge (a := l97_5) (b := 8) (by first | exact bnd i86 (by decide) (by decide) | exact ⟨by fail, by fail⟩) ⟨by decide, by decide⟩) (fun c89 => ?_) (fun c89 => ?_)
                          · skip
                            refine go_toq PM228 (k := 2) (pc' := 43) (L' := [some (.inr (.inr (some 79))), some (.inl p1), some (.inl p2), some (.inl (l43_3 + 1)), some (.inl v_h72), some (.inl l97_5)]) (st' := []) (w' := (SH, dt83)) rfl ?_
                            exact GO.le (ih_loop58 (l43_3 + 1) dt83 hI84 hF85 (by first | exact bndp i55 (by decide) (by decide) | omega) (by first | assumption | exact PB71 | exact PBO_8 (by assumption) (by omega) | exact PBI_8 (by assumption) (by omega)) (by (have z0_ := unhid c64; omega)) (by omega)) ⟨.inl rfl, .inl rfl, .inl rfl, .inl rfl, .inr ⟨rfl, trivial⟩, .inr ⟨rfl, trivial⟩, trivial⟩
                          · skip
                            refine go_toq PM228 (k := 4) (pc' := 111) (L' := [some (.inr (.inr (some 79))), some (.inl p1), some (.inl p2), some (.inl l43_3), some (.inl v_h72), some (.inl l97_5)]) (st' := [.inl l97_5, .inr (.inr (some 102)), .inl l97_5, .inr (.inr (some 102))]) (w' := (SH, dt83)) rfl ?_
                            have r90 : (-9223372036854775808) ≤ dt83 102 (l97_5).toNat ∧ dt83 102 (l97_5).toNat ≤ 9223372036854775807 := InvC_get hI84 102 (l97_5).toNat rfl rfl
                            refine go_smpq PM228 (L' := [some (.inr (.inr (some 79))), some (.inl p1), some (.inl p2), some (.inl l43_3), some (.inl v_h72), some (.inl l97_5)]) (st' := [.inr (.inl (dt83 102 (l97_5).toNat)), .inl l97_5, .inr (.inr (some 102))]) (w' := (SH, dt83)) rfl rfl (s_lald (n := 8) (f := dt83 102) rfl (by first | exact bndc i86 c89 (by decide) (by decide) | exact bndx i86 (by decide) (by decide) | exact ⟨by fail, by fail⟩)) ?_
                            refine go_toq PM228 (k := 3) (pc' := 116) (L' := [some (.inr (.inr (some 79))), some (.inl p1), some (.inl p2), some (.inl l43_3), some (.inl v_h72), some (.inl l97_5)]) (st' := [.inl l97_5, .inl l43_3, .inr (.inr (some 79)), .inr (.inl (dt83 102 (l97_5).toNat)), .inl l97_5, .inr (.inr (some 102))]) (w' := (SH, dt83)) rfl ?_
                            refine go_callq PM228 PM194 (Q' := _) rfl rfl rfl rfl (sp_X6_saysNow L xs sio (d + 3) dt83 hI84 (MW_fr hM hF85 (by decide))  l43_3 (by first | exact bnd i55 (by decide) (by decide) | exact ⟨by omega, by (have z0_ := unhid c64; omega)⟩) l97_5 (by first | exact bnd i86 (by decide) (by decide) | exact bndd i86 c89 (by decide) (by decide) | exact ⟨by fail, by fail⟩) ) ?_
                            rintro _ _ ⟨rfl, h91⟩
                            refine ⟨rfl, ?_⟩
                            rcases h91 with ⟨v_h91, rfl, h91r, h91⟩
                            refine go_ifq PM228 (k := 1) (p1 := 130) (p2 := 124) (L' := [some (.inr (.inr (some 79))), some (.inl p1), some (.inl p2), some (.inl l43_3), some (.inl v_h72), some (.inl l97_5)]) (st' := [.inr (.inl (dt83 102 (l97_5).toNat)), .inl l97_5, .inr (.inr (some 102))]) (w' := (SH, dt83)) rfl (c_ne (a := v_h91) (b := v_h72) (by first | exact bnd h91r (by decide) (by decide) | exact ⟨by fail, by fail⟩) (by first | exact bnd h72r (by decide) (by decide) | exact ⟨by fail, by fail⟩)) (fun c92 => ?_) (fun c92 => ?_)
                            · skip
                              replace c92 := hid c92
                              refine go_toq PM228 (k := 2) (pc' := 132) (L' := [some (.inr (.inr (some 79))), some (.inl p1), some (.inl p2), some (.inl l43_3), some (.inl v_h72), some (.inl l97_5)]) (st' := [.inr (.inl ((dt83 102 (l97_5).toNat) * 1)), .inl l97_5, .inr (.inr (some 102))]) (w' := (SH, dt83)) rfl ?_
                              have hI93 : InvC (u2 dt83 102 (l97_5).toNat ((dt83 102 (l97_5).toNat) * 1)) := InvC_u2 hI84 (lo := -9223372036854775808) (hi := 9223372036854775807) rfl rfl rfl (by omega) (by omega)
                              have hF94 : Fr [88, 89, 90, 91, 92, 93, 94, 95, 96, 97, 98, 99, 100, 102] dt (u2 dt83 102 (l97_5).toNat ((dt83 102 (l97_5).toNat) * 1)) := Fr_u2 hF85 (by decide)
                              refine go_smpq PM228 (L' := [some (.inr (.inr (some 79))), some (.inl p1), some (.inl p2), some (.inl l43_3), some (.inl v_h72), some (.inl l97_5)]) (st' := []) (w' := (SH, (u2 dt83 102 (l97_5).toNat ((dt83 102 (l97_5).toNat) * 1)))) rfl rfl (s_last (n := 8) rfl (by first | exact bndc i86 c89 (by decide) (by decide) | exact bndx i86 (by decide) (by decide) | exact ⟨by fail, by fail⟩) ⟨by omega, by omega⟩) ?_
                              refine go_toq PM228 (k := 2) (pc' := 97) (L' := [some (.inr (.inr (some 79))), some (.inl p1), some (.inl p2), some (.inl l43_3), some (.inl v_h72), some (.inl (l97_5 + 1))]) (st' := []) (w' := (SH, (u2 dt83 102 (l97_5).toNat ((dt83 102 (l97_5).toNat) * 1)))) rfl ?_
                              exact GO.le (ih_loop88 (l97_5 + 1) (u2 dt83 102 (l97_5).toNat ((dt83 102 (l97_5).toNat) * 1)) hI93 hF94 (by first | exact bndp i86 (by decide) (by decide) | exact bnde i86 c89 (by decide) (by decide) | fail) (by first | exact PBI_0 (by assumption) (by omega) (by fail) | exact PBI_s hPBI ⟨by omega, by (have z0_ := unhid c64; have z1_ := unhid c92; omega)⟩ ⟨by omega, by omega⟩ (Or.inl rfl) rfl | exact PBI_s hPBI ⟨by omega, by (have z0_ := unhid c64; have z1_ := unhid c92; omega)⟩ ⟨by omega, by omega⟩ (Or.inr rfl) rfl | exact PBI_s1 hPBI ⟨by omega, by (have z0_ := unhid c64; have z1_ := unhid c92; omega)⟩ ⟨by omega, by omega⟩ rfl) (by omega)) ⟨.inl rfl, .inl rfl, .inl rfl, .inl rfl, .inl rfl, .inl rfl, trivial⟩
                            · skip
                              refine go_toq PM228 (k := 3) (pc' := 132) (L' := [some (.inr (.inr (some 79))), some (.inl p1), some (.inl p2), some (.inl l43_3), some (.inl v_h72), some (.inl l97_5)]) (st' := [.inr (.inl ((dt83 102 (l97_5).toNat) * 9)), .inl l97_5, .inr (.inr (some 102))]) (w' := (SH, dt83)) rfl ?_
                              have r95 := wl_RR ((dt83 102 (l97_5).toNat) * 9)
                              have hI96 : InvC (u2 dt83 102 (l97_5).toNat (wl ((dt83 102 (l97_5).toNat) * 9))) := InvC_u2 hI84 (lo := -9223372036854775808) (hi := 9223372036854775807) rfl rfl rfl (by omega) (by omega)
                              have hF97 : Fr [88, 89, 90, 91, 92, 93, 94, 95, 96, 97, 98, 99, 100, 102] dt (u2 dt83 102 (l97_5).toNat (wl ((dt83 102 (l97_5).toNat) * 9))) := Fr_u2 hF85 (by decide)
                              refine go_smpq PM228 (L' := [some (.inr (.inr (some 79))), some (.inl p1), some (.inl p2), some (.inl l43_3), some (.inl v_h72), some (.inl l97_5)]) (st' := []) (w' := (SH, (u2 dt83 102 (l97_5).toNat (wl ((dt83 102 (l97_5).toNat) * 9))))) rfl rfl (s_lastw (n := 8) rfl (by first | exact bndc i86 c89 (by decide) (by decide) | exact bndx i86 (by decide) (by decide) | exact ⟨by fail, by fail⟩)) ?_
                              refine go_toq PM228 (k := 2) (pc' := 97) (L' := [some (.inr (.inr (some 79))), some (.inl p1), some (.inl p2), some (.inl l43_3), some (.inl v_h72), some (.inl (l97_5 + 1))]) (st' := []) (w' := (SH, (u2 dt83 102 (l97_5).toNat (wl ((dt83 102 (l97_5).toNat) * 9))))) rfl ?_
                              exact GO.le (ih_loop88 (l97_5 + 1) (u2 dt83 102 (l97_5).toNat (wl ((dt83 102 (l97_5).toNat) * 9))) hI96 hF97 (by first | exact bndp i86 (by decide) (by decide) | exact bnde i86 c89 (by decide) (by decide) | fail) (by first | exact PBI_0 (by assumption) (by omega) (by fail) | exact PBI_s hPBI ⟨by omega, by (have z0_ := unhid c64; omega)⟩ ⟨by omega, by omega⟩ (Or.inl rfl) rfl | exact PBI_s hPBI ⟨by fail, by fail⟩ ⟨by fail, by fail⟩ (Or.inr rfl) rfl | exact PBI_s1 hPBI ⟨by fail, by fail⟩ ⟨by fail, by fail⟩ rfl) (by omega)) ⟨.inl rfl, .inl rfl, .inl rfl, .inl rfl, .inl rfl, .inl rfl, trivial⟩
                      exact GO.le (loop88 _ 0 dt67 hI68 hF70 ⟨by decide, by decide⟩ (by first | exact PBI_0 (by assumption) (by omega) (by omega) | exact PBI_s PB71I ⟨by fail, by fail⟩ ⟨by fail, by fail⟩ (Or.inl rfl) rfl | exact PBI_s PB71I ⟨by fail, by fail⟩ ⟨by fail, by fail⟩ (Or.inr rfl) rfl | exact PBI_s1 PB71I ⟨by fail, by fail⟩ ⟨by fail, by fail⟩ rfl) (Nat.lt_succ_self _)) ⟨.inl rfl, .inl rfl, .inl rfl, .inl rfl, .inl rfl, .inl rfl, trivial⟩
                    · skip
                      refine go_retq PM228 (k := 1) (r := some (.inl (-1))) (w1 := (SH, dt52)) rfl ?_
                      exact ⟨dt52, rfl, hI53, hF54, ⟨_, rfl, ⟨by decide, by decide⟩, trivial⟩⟩
                  · skip
                    refine go_retq PM228 (k := 1) (r := some (.inl l43_3)) (w1 := (SH, dt52)) rfl ?_
                    exact ⟨dt52, rfl, hI53, hF54, ⟨_, rfl, (by first | exact bnd i55 (by decide) (by decide) | exact ⟨by omega, by omega⟩), trivial⟩⟩
            exact GO.le (loop58 _ 0 dt9 hI10 hF11 ⟨by decide, by decide⟩ (by first | assumption | exact $PB | exact PBO_8 (by assumption) (by omega) | exact PBI_8 (by assumption) (by fail)) (by omega) (Nat.lt_succ_self _)) ⟨.inl rfl, .inl rfl, .inl rfl, .inl rfl, .inl rfl, .inl rfl, trivial⟩
          · skip
            refine go_toq PM228 (k := 4) (pc' := 34) (L' := [some (.inr (.inr (some 79))), some (.inl p1), some (.inl p2), some (.inl l22_3), none, none]) (st' := [.inr (.inl 1), .inl l22_3, .inr (.inr (some 102))]) (w' := (SH, dt9)) rfl ?_
            have hI98 : InvC (u2 dt9 102 (l22_3).toNat 1) := InvC_u2 hI10 (lo := -9223372036854775808) (hi := 9223372036854775807) rfl rfl rfl (by decide) (by decide)
            have hF99 : Fr [88, 89, 90, 91, 92, 93, 94, 95, 96, 97, 98, 99, 100, 102] dt (u2 dt9 102 (l22_3).toNat 1) := Fr_u2 hF11 (by decide)
            refine go_smpq PM228 (L' := [some (.inr (.inr (some 79))), some (.inl p1), some (.inl p2), some (.inl l22_3), none, none]) (st' := []) (w' := (SH, (u2 dt9 102 (l22_3).toNat 1))) rfl rfl (s_last (n := 8) rfl (by first | exact bndc i12 c15 (by decide) (by decide) | exact bndx i12 (by decide) (by decide) | exact ⟨by fail, by fail⟩) ⟨by omega, by omega⟩) ?_
            refine go_toq PM228 (k := 2) (pc' := 22) (L' := [some (.inr (.inr (some 79))), some (.inl p1), some (.inl p2), some (.inl (l22_3 + 1)), none, none]) (st' := []) (w' := (SH, (u2 dt9 102 (l22_3).toNat 1))) rfl ?_
            exact GO.le (ih_loop14 (l22_3 + 1) (u2 dt9 102 (l22_3).toNat 1) hI98 hF99 (by first | exact bndp i12 (by decide) (by decide) | exact bnde i12 c15 (by decide) (by decide) | fail) (by first | exact PBO_0 | exact PBO_s (by assumption) (by omega)) (by omega)) ⟨.inl rfl, .inl rfl, .inl rfl, .inl rfl, .inl rfl, .inl rfl, trivial⟩
      exact GO.le (loop14 _ 0 dt hI hF ⟨by decide, by decide⟩ (by first | exact PBO_0 | exact PBO_s (by assumption) (by fail)) (Nat.lt_succ_self _)) ⟨.inl rfl, .inl rfl, .inl rfl, .inl rfl, .inl rfl, .inl rfl, trivial⟩
    · skip
      refine go_retq PM228 (k := 2) (r := some (.inl (-1))) (w1 := (SH, dt)) rfl ?_
      exact ⟨dt, rfl, hI, hF, ⟨_, rfl, ⟨by decide, by decide⟩, trivial⟩⟩
  · skip
    refine go_retq PM228 (k := 2) (r := some (.inl (-1))) (w1 := (SH, dt)) rfl ?_
    exact ⟨dt, rfl, hI, hF, ⟨_, rfl, ⟨by decide, by decide⟩, trivial⟩⟩
set_option maxRecDepth 20000 in
theorem sp_X6_sorts (L : Nat) (xs : Nat → Int32) (sio : Option Nat) (d : Nat) (dt : Nat → Nat → Int) (hI : InvC dt) (hM : MW (dt 80))  (p1 : Int) (h_p1 : (-2147483648) ≤ p1 ∧ p1 ≤ 2147483647) (p2 : Int) (h_p2 : (-2147483648) ≤ p2 ∧ p2 ≤ 2147483647)  : GO (am_XX L xs sio) (d + 7) 240 0 [some (.inr (.inr (some 79))), some (.inl p1), some (.inl p2), none, none] [] (SH, dt) (fun r w2 => ∃ dt2 : Nat → Nat → Int, w2 = (SH, dt2) ∧ InvC dt2 ∧ Fr [88, 89, 90, 91, 92, 93, 94, 95, 96, 97, 98, 99, 100, 102] dt dt2 ∧ ((∃ v : Int, r = some (.inl v) ∧ True ∧ True))) := by
  have hF : Fr [88, 89, 90, 91, 92, 93, 94, 95, 96, 97, 98, 99, 100, 102] dt dt := Fr_refl
  refine go_toq PM240 (k := 3) (pc' := 3) (L' := [some (.inr (.inr (some 79))), some (.inl p1), some (.inl p2), none, none]) (st' := [.inl 1, .inl 0, .inl p1]) (w' := (SH, dt)) rfl ?_
  refine go_callq PM240 PM146 (Q' := _) rfl rfl rfl rfl (sp_X6_isIn L xs sio (d + 6) dt hI  p1 (by first | exact h_p1 | exact bnd h_p1 (by decide) (by decide) | exact ⟨by fail, by fail⟩) 0 ⟨by decide, by decide⟩ 1 ⟨by decide, by decide⟩ ) ?_
  rintro _ _ ⟨rfl, h1⟩
  refine ⟨rfl, ?_⟩
  rcases h1 with ⟨rfl, h1⟩ | ⟨rfl, h1⟩
  · skip
    refine go_toq PM240 (k := 4) (pc' := 13) (L' := [some (.inr (.inr (some 79))), some (.inl p1), some (.inl p2), none, none]) (st' := [.inl 8, .inl 0, .inl p2]) (w' := (SH, dt)) rfl ?_
    refine go_callq PM240 PM146 (Q' := _) rfl rfl rfl rfl (sp_X6_isIn L xs sio (d + 6) dt hI  p2 (by first | exact h_p2 | exact bnd h_p2 (by decide) (by decide) | exact ⟨by fail, by fail⟩) 0 ⟨by decide, by decide⟩ 8 ⟨by decide, by decide⟩ ) ?_
    rintro _ _ ⟨rfl, h2⟩
    refine ⟨rfl, ?_⟩
    rcases h2 with ⟨rfl, h2⟩ | ⟨rfl, h2⟩
    · skip
      refine go_toq PM240 (k := 5) (pc' := 26) (L' := [some (.inr (.inr (some 79))), some (.inl p1), some (.inl p2), some (.inl 0), some (.inl 0)]) (st' := []) (w' := (SH, dt)) rfl ?_
      have loop238 : ∀ (k_ : Nat) (l26_3 : Int) (l26_4 : Int) (dt234 : Nat → Nat → Int) (hI235 : InvC dt234) (hF236 : Fr [88, 89, 90, 91, 92, 93, 94, 95, 96, 97, 98, 99, 100, 102] dt dt234) (i237 : 0 ≤ l26_4 ∧ l26_4 ≤ 40), (41 - l26_4).toNat < k_ → GO (am_XX L xs sio) (d + 7) 240 26 [some (.inr (.inr (some 79))), some (.inl p1), some (.inl p2), some (.inl l26_3), some (.inl l26_4)] [] (SH, dt234) (fun r w2 => ∃ dt2 : Nat → Nat → Int, w2 = (SH, dt2) ∧ InvC dt2 ∧ Fr [88, 89, 90, 91, 92, 93, 94, 95, 96, 97, 98, 99, 100, 102] dt dt2 ∧ ((∃ v : Int, r = some (.inl v) ∧ True ∧ True))) := by
        intro k_
        induction k_ with
        | zero => intro l26_3 l26_4 dt234 hI235 hF236 i237 hm; exact absurd hm (Nat.not_lt_zero _)
        | succ k_ ih_loop238 =>
          intro l26_3 l26_4 dt234 hI235 hF236 i237 hm
          refine go_toq PM240 (k := 4) (pc' := 33) (L' := [some (.inr (.inr (some 79))), some (.inl p1), some (.inl p2), some (.inl l26_3), some (.inl l26_4)]) (st' := [.inl 2, .inr (.inr (some 80)), .inl l26_4]) (w' := (SH, dt234)) rfl ?_
          have r239 : (-2147483648) ≤ dt 80 2 ∧ dt 80 2 ≤ 2147483647 := InvC_get hI 80 2 rfl rfl
          have r240 := MW_n hM
          refine go_smpq PM240 (L' := [some (.inr (.inr (some 79))), some (.inl p1), some (.inl p2), some (.inl l26_3), some (.inl l26_4)]) (st' := [.inl (dt 80 2), .inl l26_4]) (w' := (SH, dt234)) rfl rfl (s_ev (s_iald (n := 7460) (f := dt234 80) rfl ⟨by decide, by decide⟩) (hF236 80 (by decide) _)) ?_
          refine go_ifq PM240 (k := 0) (p1 := 88) (p2 := 37) (L' := [some (.inr (.inr (some 79))), some (.inl p1), some (.inl p2), some (.inl l26_3), some (.inl l26_4)]) (st' := []) (w' := (SH, dt234)) rfl (c_ge (a := l26_4) (b := dt 80 2) (by first | exact bnd i237 (by decide) (by decide) | exact ⟨by fail, by fail⟩) (by first | exact bnd r239 (by decide) (by decide) | exact ⟨by fail, by fail⟩)) (fun c259 => ?_) (fun c259 => ?_)
          · skip
            refine go_retq PM240 (k := 1) (r := some (.inl l26_3)) (w1 := (SH, dt234)) rfl ?_
            exact ⟨dt234, rfl, hI235, hF236, ⟨_, rfl, trivial, trivial⟩⟩
          · skip
            refine go_toq PM240 (k := 4) (pc' := 42) (L' := [some (.inr (.inr (some 79))), some (.inl p1), some (.inl p2), some (.inl l26_3), some (.inl l26_4)]) (st' := [.inl 3, .inl l26_4, .inr (.inr (some 79)), .inl l26_3]) (w' := (SH, dt234)) rfl ?_
            refine go_callq PM240 PM198 (Q' := _) rfl rfl rfl rfl (sp_X6_ofChild_3 L xs sio (d + 6) dt234 hI235 (MW_fr hM hF236 (by decide))  l26_4 (by first | exact bnd i237 (by decide) (by decide) | exact bndd i237 c259 (by decide) (by decide) | exact ⟨by omega, by omega⟩) ) ?_
            rintro _ _ ⟨rfl, h260⟩
            refine ⟨rfl, ?_⟩
            rcases h260 with ⟨rfl, h260⟩
            have j275 : ∀ (j275_s1 : Int) (j275_d : Nat → Nat → Int) (j275_hI : InvC j275_d) (j275_hF : Fr [88, 89, 90, 91, 92, 93, 94, 95, 96, 97, 98, 99, 100, 102] dt j275_d) (i276 : l26_3 + 0 ≤ j275_s1 ∧ j275_s1 ≤ l26_3 + 0), GO (am_XX L xs sio) (d + 7) 240 80 [some (.inr (.inr (some 79))), some (.inl p1), some (.inl p2), none, some (.inl l26_4)] [.inl 0, .inl j275_s1] (SH, j275_d) (fun r w2 => ∃ dt2 : Nat → Nat → Int, w2 = (SH, dt2) ∧ InvC dt2 ∧ Fr [88, 89, 90, 91, 92, 93, 94, 95, 96, 97, 98, 99, 100, 102] dt dt2 ∧ ((∃ v : Int, r = some (.inl v) ∧ True ∧ True))) := by
              intro j275_s1 j275_d j275_hI j275_hF i276
              refine go_toq PM240 (k := 4) (pc' := 26) (L' := [some (.inr (.inr (some 79))), some (.inl p1), some (.inl p2), some (.inl (j275_s1 + 0)), some (.inl (l26_4 + 1))]) (st' := []) (w' := (SH, j275_d)) rfl ?_
              exact GO.le (ih_loop238 (j275_s1 + 0) (l26_4 + 1) j275_d j275_hI j275_hF (by first | exact bndp i237 (by decide) (by decide) | exact bnde i237 c259 (by decide) (by decide) | omega) (by omega)) ⟨.inl rfl, .inl rfl, .inl rfl, .inl rfl, .inl rfl, trivial⟩
            have j277 : ∀ (j277_s1 : Int) (j277_d : Nat → Nat → Int) (j277_hI : InvC j277_d) (j277_hF : Fr [88, 89, 90, 91, 92, 93, 94, 95, 96, 97, 98, 99, 100, 102] dt j277_d) (i278 : l26_3 + 0 ≤ j277_s1 ∧ j277_s1 ≤ l26_3 + 0), GO (am_XX L xs sio) (d + 7) 240 80 [some (.inr (.inr (some 79))), some (.inl p1), some (.inl p2), none, some (.inl l26_4)] [.inl 1, .inl j277_s1] (SH, j277_d) (fun r w2 => ∃ dt2 : Nat → Nat → Int, w2 = (SH, dt2) ∧ InvC dt2 ∧ Fr [88, 89, 90, 91, 92, 93, 94, 95, 96, 97, 98, 99, 100, 102] dt dt2 ∧ ((∃ v : Int, r = some (.inl v) ∧ True ∧ True))) := by
              intro j277_s1 j277_d j277_hI j277_hF i278
              refine go_toq PM240 (k := 4) (pc' := 26) (L' := [some (.inr (.inr (some 79))), some (.inl p1), some (.inl p2), some (.inl (j277_s1 + 1)), some (.inl (l26_4 + 1))]) (st' := []) (w' := (SH, j277_d)) rfl ?_
              exact GO.le (ih_loop238 (j277_s1 + 1) (l26_4 + 1) j277_d j277_hI j277_hF (by first | exact bndp i237 (by decide) (by decide) | exact bnde i237 c259 (by decide) (by decide) | omega) (by omega)) ⟨.inl rfl, .inl rfl, .inl rfl, .inl rfl, .inl rfl, trivial⟩
            refine go_ifq PM240 (k := 1) (p1 := 79) (p2 := 49) (L' := [some (.inr (.inr (some 79))), some (.inl p1), some (.inl p2), some (.inl l26_3), some (.inl l26_4)]) (st' := [.inl l26_3]) (w' := (SH, dt234)) rfl (c_ne (a := dt234 80 (((5380 + (4 * l26_4)) + 3)).toNat) (b := p1) ⟨by omega, by omega⟩ (by first | exact bnd h_p1 (by decide) (by decide) | exact ⟨by fail, by fail⟩)) (fun c279 => ?_) (fun c279 => ?_)
            · skip
              replace c279 := hid c279
              refine go_toq PM240 (k := 1) (pc' := 80) (L' := [some (.inr (.inr (some 79))), some (.inl p1), some (.inl p2), some (.inl l26_3), some (.inl l26_4)]) (st' := [.inl 0, .inl l26_3]) (w' := (SH, dt234)) rfl ?_
              exact GO.le (j275 l26_3 dt234 hI235 hF236 (by omega)) ⟨.inl rfl, .inl rfl, .inl rfl, .inr ⟨rfl, trivial⟩, .inl rfl, trivial⟩
            · skip
              refine go_toq PM240 (k := 3) (pc' := 53) (L' := [some (.inr (.inr (some 79))), some (.inl p1), some (.inl p2), some (.inl l26_3), some (.inl l26_4)]) (st' := [.inl 0, .inl l26_4, .inr (.inr (some 79)), .inl l26_3]) (w' := (SH, dt234)) rfl ?_
              refine go_callq PM240 PM231 (Q' := _) rfl rfl rfl rfl (sp_X6_passes L xs sio (d + 0) dt234 hI235 (MW_fr hM hF236 (by decide))  l26_4 (by first | exact bnd i237 (by decide) (by decide) | exact bndd i237 c259 (by decide) (by decide) | exact ⟨by omega, by omega⟩) 0 ⟨by decide, by decide⟩ ) ?_
              rintro _ _ ⟨dt281, rfl, hI282, hF283, h280⟩
              refine ⟨rfl, ?_⟩
              have hF284 : Fr [88, 89, 90, 91, 92, 93, 94, 95, 96, 97, 98, 99, 100, 102] dt dt281 := Fr_tr hF236 hF283 (by decide)
              rcases h280 with ⟨v_h280, rfl, h280r, h280⟩
              refine go_ifq PM240 (k := 0) (p1 := 79) (p2 := 59) (L' := [some (.inr (.inr (some 79))), some (.inl p1), some (.inl p2), some (.inl l26_3), some (.inl l26_4)]) (st' := [.inl l26_3]) (w' := (SH, dt281)) rfl (z_ne (a := v_h280) (by first | exact bnd h280r (by decide) (by decide) | exact ⟨by fail, by fail⟩)) (fun c285 => ?_) (fun c285 => ?_)
              · skip
                replace c285 := hid c285
                refine go_toq PM240 (k := 1) (pc' := 80) (L' := [some (.inr (.inr (some 79))), some (.inl p1), some (.inl p2), some (.inl l26_3), some (.inl l26_4)]) (st' := [.inl 0, .inl l26_3]) (w' := (SH, dt281)) rfl ?_
                exact GO.le (j275 l26_3 dt281 hI282 hF284 (by omega)) ⟨.inl rfl, .inl rfl, .inl rfl, .inr ⟨rfl, trivial⟩, .inl rfl, trivial⟩
              · skip
                refine go_ifq PM240 (k := 2) (p1 := 75) (p2 := 65) (L' := [some (.inr (.inr (some 79))), some (.inl p1), some (.inl p2), some (.inl l26_3), some (.inl l26_4)]) (st' := [.inl l26_3]) (w' := (SH, dt281)) rfl (c_eq (a := p2) (b := 8) (by first | exact bnd h_p2 (by decide) (by decide) | exact ⟨by fail, by fail⟩) ⟨by decide, by decide⟩) (fun c286 => ?_) (fun c286 => ?_)
                · skip
                  refine go_toq PM240 (k := 2) (pc' := 80) (L' := [some (.inr (.inr (some 79))), some (.inl p1), some (.inl p2), some (.inl l26_3), some (.inl l26_4)]) (st' := [.inl 1, .inl l26_3]) (w' := (SH, dt281)) rfl ?_
                  exact GO.le (j277 l26_3 dt281 hI282 hF284 (by omega)) ⟨.inl rfl, .inl rfl, .inl rfl, .inr ⟨rfl, trivial⟩, .inl rfl, trivial⟩
                · skip
                  replace c286 := hid c286
                  refine go_toq PM240 (k := 2) (pc' := 68) (L' := [some (.inr (.inr (some 79))), some (.inl p1), some (.inl p2), some (.inl l26_3), some (.inl l26_4)]) (st' := [.inl l26_4, .inr (.inr (some 79)), .inl l26_3]) (w' := (SH, dt281)) rfl ?_
                  refine go_callq PM240 PM226 (Q' := _) rfl rfl rfl rfl (sp_X6_itsRule L xs sio (d + 0) dt281 hI282 (MW_fr hM hF284 (by decide))  l26_4 (by first | exact bnd i237 (by decide) (by decide) | exact bndd i237 c259 (by decide) (by decide) | exact ⟨by omega, by omega⟩) ) ?_
                  rintro _ _ ⟨dt288, rfl, hI289, hF290, h287⟩
                  refine ⟨rfl, ?_⟩
                  have hF291 : Fr [88, 89, 90, 91, 92, 93, 94, 95, 96, 97, 98, 99, 100, 102] dt dt288 := Fr_tr hF284 hF290 (by decide)
                  rcases h287 with ⟨v_h287, rfl, h287r, h287⟩
                  refine go_ifq PM240 (k := 1) (p1 := 79) (p2 := 75) (L' := [some (.inr (.inr (some 79))), some (.inl p1), some (.inl p2), some (.inl l26_3), some (.inl l26_4)]) (st' := [.inl l26_3]) (w' := (SH, dt288)) rfl (c_ne (a := v_h287) (b := p2) (by first | exact bnd h287r (by decide) (by decide) | exact ⟨by fail, by fail⟩) (by first | exact bnd h_p2 (by decide) (by decide) | exact ⟨by fail, by fail⟩)) (fun c292 => ?_) (fun c292 => ?_)
                  · skip
                    replace c292 := hid c292
                    refine go_toq PM240 (k := 1) (pc' := 80) (L' := [some (.inr (.inr (some 79))), some (.inl p1), some (.inl p2), some (.inl l26_3), some (.inl l26_4)]) (st' := [.inl 0, .inl l26_3]) (w' := (SH, dt288)) rfl ?_
                    exact GO.le (j275 l26_3 dt288 hI289 hF291 (by omega)) ⟨.inl rfl, .inl rfl, .inl rfl, .inr ⟨rfl, trivial⟩, .inl rfl, trivial⟩
                  · skip
                    refine go_toq PM240 (k := 2) (pc' := 80) (L' := [some (.inr (.inr (some 79))), some (.inl p1), some (.inl p2), some (.inl l26_3), some (.inl l26_4)]) (st' := [.inl 1, .inl l26_3]) (w' := (SH, dt288)) rfl ?_
                    exact GO.le (j277 l26_3 dt288 hI289 hF291 (by omega)) ⟨.inl rfl, .inl rfl, .inl rfl, .inr ⟨rfl, trivial⟩, .inl rfl, trivial⟩
      exact GO.le (loop238 _ 0 0 dt hI hF ⟨by decide, by decide⟩ (Nat.lt_succ_self _)) ⟨.inl rfl, .inl rfl, .inl rfl, .inl rfl, .inl rfl, trivial⟩
    · skip
      refine go_retq PM240 (k := 2) (r := some (.inl (-1))) (w1 := (SH, dt)) rfl ?_
      exact ⟨dt, rfl, hI, hF, ⟨_, rfl, trivial, trivial⟩⟩
  · skip
    refine go_retq PM240 (k := 2) (r := some (.inl (-1))) (w1 := (SH, dt)) rfl ?_
    exact ⟨dt, rfl, hI, hF, ⟨_, rfl, trivial, trivial⟩⟩
