set_option maxHeartbeats 8000000 in
set_option maxRecDepth 20000 in
theorem sp_X6_next0_l0 (L : Nat) (xs : Nat → Int32) (sio : Option Nat) (d : Nat) (dt : Nat → Nat → Int) (hI : InvC dt)  (p1 : Int) (h_p1 : 0 ≤ p1 ∧ p1 ≤ 255) (h_p0 : dt 79 13 = dt 79 15) (h_p1 : dt 79 15 < dt 79 12) (h_p2 : dt 79 9 = 0) (h_p3 : p1 = (mB (dt 85) (dt 79 12)) (dt 79 15).toNat) (h_p4 : RN pB (mB (dt 85) (dt 79 12)) (dt 79 12).toNat (dt 79 13).toNat = (dt 79 13).toNat) (h_p5 : (97 ≤ p1 ∧ p1 ≤ 122) ∨ (65 ≤ p1 ∧ p1 ≤ 90)) : GO (am_XX L xs sio) (d + 6) 159 76 [some (.inr (.inr (some 79))), some (.inl p1), none] [] (SH, dt) (fun r w2 => ∃ dt2 : Nat → Nat → Int, w2 = (SH, dt2) ∧ InvC dt2 ∧ Fr [79] dt dt2 ∧ ((r = none ∧ (CUP 0 (mB (dt 85) (dt 79 12)) (dt 79 12).toNat dt2 (RN pB (mB (dt 85) (dt 79 12)) (dt 79 12).toNat (dt 79 13).toNat)) ∧ (dt 79 13 ≤ dt2 79 15) ∧ (dt2 79 2 = dt 79 2) ∧ (dt2 79 9 = dt 79 9) ∧ (dt2 79 10 = dt 79 10) ∧ (dt2 79 11 = dt 79 11) ∧ (dt2 79 12 = dt 79 12) ∧ (dt2 79 17 = dt 79 17) ∧ (dt2 79 20 = dt 79 20)))) := by
  have hF : Fr [79] dt dt := Fr_refl
  have r1 : 0 ≤ dt 79 13 ∧ dt 79 13 ≤ 501 := InvC_get hI 79 13 rfl rfl
  have r2 : 0 ≤ dt 79 12 ∧ dt 79 12 ≤ 500 := InvC_get hI 79 12 rfl rfl
  have r3 : 0 ≤ dt 79 15 ∧ dt 79 15 ≤ 500 := InvC_get hI 79 15 rfl rfl
  have loop54 : ∀ (k_ : Nat) (dt37 : Nat → Nat → Int) (hI38 : InvC dt37) (hF39 : Fr [79] dt dt37) (i40 : dt37 79 15 ≤ dt37 79 13) (i41 : dt 79 13 ≤ dt37 79 15) (i42 : dt37 79 13 ≤ dt 79 12) (i43 : RN pB (mB (dt 85) (dt 79 12)) (dt 79 12).toNat (dt 79 13).toNat = (dt37 79 15).toNat) (i44 : RN pL (mB (dt 85) (dt 79 12)) (dt 79 12).toNat (dt37 79 15).toNat = RN pL (mB (dt 85) (dt 79 12)) (dt 79 12).toNat (dt37 79 13).toNat) (i45 : dt37 79 15 < dt 79 12) (i46 : p1 = (mB (dt 85) (dt 79 12)) (dt37 79 15).toNat) (i47 : dt37 79 2 = dt 79 2) (i48 : dt37 79 9 = dt 79 9) (i49 : dt37 79 10 = dt 79 10) (i50 : dt37 79 11 = dt 79 11) (i51 : dt37 79 12 = dt 79 12) (i52 : dt37 79 17 = dt 79 17) (i53 : dt37 79 20 = dt 79 20), (502 - dt37 79 13).toNat < k_ → GO (am_XX L xs sio) (d + 6) 159 76 [some (.inr (.inr (some 79))), none, none] [] (SH, dt37) (fun r w2 => ∃ dt2 : Nat → Nat → Int, w2 = (SH, dt2) ∧ InvC dt2 ∧ Fr [79] dt dt2 ∧ ((r = none ∧ (CUP 0 (mB (dt 85) (dt 79 12)) (dt 79 12).toNat dt2 (RN pB (mB (dt 85) (dt 79 12)) (dt 79 12).toNat (dt 79 13).toNat)) ∧ (dt 79 13 ≤ dt2 79 15) ∧ (dt2 79 2 = dt 79 2) ∧ (dt2 79 9 = dt 79 9) ∧ (dt2 79 10 = dt 79 10) ∧ (dt2 79 11 = dt 79 11) ∧ (dt2 79 12 = dt 79 12) ∧ (dt2 79 17 = dt 79 17) ∧ (dt2 79 20 = dt 79 20)))) := by
    intro k_
    induction k_ with
    | zero => intro dt37 hI38 hF39 i40 i41 i42 i43 i44 i45 i46 i47 i48 i49 i50 i51 i52 i53 hm; exact absurd hm (Nat.not_lt_zero _)
    | succ k_ ih_loop54 =>
      intro dt37 hI38 hF39 i40 i41 i42 i43 i44 i45 i46 i47 i48 i49 i50 i51 i52 i53 hm
      have q0 := i43
      have q1 := i44
      have q5 := i46
      have r55 : 0 ≤ dt37 79 13 ∧ dt37 79 13 ≤ 501 := InvC_get hI38 79 13 rfl rfl
      refine go_toq PM159 (k := 3) (pc' := 81) (L' := [some (.inr (.inr (some 79))), none, none]) (st' := [.inl (dt37 79 13), .inr (.inr (some 79))]) (w' := (SH, dt37)) rfl ?_
      refine go_callq PM159 PM153 (Q' := _) rfl rfl rfl rfl (sp_X6_see_f L xs sio (d + 5) dt37 hI38  (dt37 79 13) (by first | exact bnd r55 (by decide) (by decide) | exact ⟨by omega, by omega⟩) ) ?_
      rintro _ _ ⟨rfl, h56⟩
      refine ⟨rfl, ?_⟩
      rcases h56 with ⟨v_h56, rfl, h56r, h56⟩ | ⟨rfl, h56⟩
      · skip
        obtain ⟨h56_0, h56_1⟩ := h56
        have hb_h56 : v_h56 = (mB (dt 85) (dt 79 12)) (dt37 79 13).toNat := by have z := h56_1; rw [show dt37 85 = dt 85 from funext (hF39 85 (by decide)), show dt37 79 12 = dt 79 12 by first | assumption | omega] at z; exact z
        refine go_callq PM159 PM154 (Q' := _) rfl rfl rfl rfl (sp_X6_isLetter L xs sio (d + 4) dt37 hI38  v_h56 (by first | exact bnd h56r (by decide) (by decide) | exact ⟨by omega, by omega⟩) ) ?_
        rintro _ _ ⟨rfl, h57⟩
        refine ⟨rfl, ?_⟩
        rcases h57 with ⟨v_h57, rfl, h57r, h57⟩
        refine go_ifq PM159 (k := 0) (p1 := 103) (p2 := 90) (L' := [some (.inr (.inr (some 79))), none, none]) (st' := []) (w' := (SH, dt37)) rfl (z_eq (a := v_h57) (by first | exact bnd h57r (by decide) (by decide) | exact ⟨by omega, by omega⟩)) (fun c58 => ?_) (fun c58 => ?_)
        · skip
          have r59 : 0 ≤ dt37 79 9 ∧ dt37 79 9 ≤ 1 := InvC_get hI38 79 9 rfl rfl
          refine go_ifq PM159 (k := 3) (p1 := 118) (p2 := 111) (L' := [some (.inr (.inr (some 79))), none, none]) (st' := [.inr (.inr (some 79))]) (w' := (SH, dt37)) rfl (z_ne (a := dt37 79 9) (by first | exact bnd r59 (by decide) (by decide) | exact ⟨by omega, by omega⟩)) (fun c60 => ?_) (fun c60 => ?_)
          · skip
            exfalso; omega
          · skip
            refine go_toq PM159 (k := 1) (pc' := 112) (L' := [some (.inr (.inr (some 79))), none, none]) (st' := [.inr (.inr (some 79)), .inr (.inr (some 79))]) (w' := (SH, dt37)) rfl ?_
            refine go_callq PM159 PM157 (Q' := _) rfl rfl rfl rfl (sp_X6_actWord_f L xs sio (d + 0) dt37 hI38   (by first | exact True.intro | assumption | rfl | omega | trivial) (by first | exact True.intro | assumption | rfl | omega | trivial) (by first | exact True.intro | assumption | rfl | omega | trivial)) ?_
            rintro _ _ ⟨rfl, h61⟩
            refine ⟨rfl, ?_⟩
            rcases h61 with ⟨rfl, h61⟩ | ⟨rfl, h61⟩ | ⟨rfl, h61⟩ | ⟨rfl, h61⟩ | ⟨rfl, h61⟩ | ⟨rfl, h61⟩ | ⟨rfl, h61⟩ | ⟨rfl, h61⟩ | ⟨rfl, h61⟩ | ⟨rfl, h61⟩
            · skip
              have hw_h61 := h61
              rw [show dt37 85 = dt 85 from funext (hF39 85 (by decide)), show dt37 79 12 = dt 79 12 by first | assumption | omega] at hw_h61
              refine go_toq PM159 (k := 1) (pc' := 122) (L' := [some (.inr (.inr (some 79))), none, none]) (st' := [.inl 20, .inr (.inr (some 79))]) (w' := (SH, dt37)) rfl ?_
              have hI62 : InvC (u2 dt37 79 14 20) := InvC_u2 hI38 (lo := -2147483648) (hi := 2147483647) rfl rfl rfl (by decide) (by decide)
              have hF63 : Fr [79] dt (u2 dt37 79 14 20) := Fr_u2 hF39 (by decide)
              have w64 : (u2 dt37 79 14 20) 79 13 = dt37 79 13 := rfl
              have w65 : (u2 dt37 79 14 20) 79 14 = 20 := rfl
              have w66 : (u2 dt37 79 14 20) 79 15 = dt37 79 15 := rfl
              have w67 : (u2 dt37 79 14 20) 79 16 = dt37 79 16 := rfl
              have w68 : (u2 dt37 79 14 20) 79 2 = dt37 79 2 := rfl
              have w69 : (u2 dt37 79 14 20) 79 9 = dt37 79 9 := rfl
              have w70 : (u2 dt37 79 14 20) 79 10 = dt37 79 10 := rfl
              have w71 : (u2 dt37 79 14 20) 79 11 = dt37 79 11 := rfl
              have w72 : (u2 dt37 79 14 20) 79 12 = dt37 79 12 := rfl
              have w73 : (u2 dt37 79 14 20) 79 17 = dt37 79 17 := rfl
              have w74 : (u2 dt37 79 14 20) 79 20 = dt37 79 20 := rfl
              refine go_smpq PM159 (L' := [some (.inr (.inr (some 79))), none, none]) (st' := []) (w' := (SH, (u2 dt37 79 14 20))) rfl rfl (s_pf rfl rfl rfl rfl ⟨by decide, by decide⟩) ?_
              refine go_retq PM159 (k := 1) (r := none) (w1 := (SH, (u2 dt37 79 14 20))) rfl ?_
              exact ⟨(u2 dt37 79 14 20), rfl, hI62, hF63, ⟨rfl, ⟨by exact CUP_w q0 (by omega) (by omega) (pLt q5 (by omega)) (TE_l0 ⟨by omega, by omega⟩ (pLt q5 (by omega)) q1 (by omega) (.inr (pLf hb_h56 (by omega)))) hw_h61 rfl (by decide), by first | exact True.intro | assumption | rfl | omega | trivial, by first | exact True.intro | assumption | rfl | omega | trivial, by first | exact True.intro | assumption | rfl | omega | trivial, by first | exact True.intro | assumption | rfl | omega | trivial, by first | exact True.intro | assumption | rfl | omega | trivial, by first | exact True.intro | assumption | rfl | omega | trivial, by first | exact True.intro | assumption | rfl | omega | trivial, by first | exact True.intro | assumption | rfl | omega | trivial⟩⟩⟩
            · skip
              have hw_h61 := h61
              rw [show dt37 85 = dt 85 from funext (hF39 85 (by decide)), show dt37 79 12 = dt 79 12 by first | assumption | omega] at hw_h61
              refine go_toq PM159 (k := 1) (pc' := 122) (L' := [some (.inr (.inr (some 79))), none, none]) (st' := [.inl 21, .inr (.inr (some 79))]) (w' := (SH, dt37)) rfl ?_
              have hI75 : InvC (u2 dt37 79 14 21) := InvC_u2 hI38 (lo := -2147483648) (hi := 2147483647) rfl rfl rfl (by decide) (by decide)
              have hF76 : Fr [79] dt (u2 dt37 79 14 21) := Fr_u2 hF39 (by decide)
              have w77 : (u2 dt37 79 14 21) 79 13 = dt37 79 13 := rfl
              have w78 : (u2 dt37 79 14 21) 79 14 = 21 := rfl
              have w79 : (u2 dt37 79 14 21) 79 15 = dt37 79 15 := rfl
              have w80 : (u2 dt37 79 14 21) 79 16 = dt37 79 16 := rfl
              have w81 : (u2 dt37 79 14 21) 79 2 = dt37 79 2 := rfl
              have w82 : (u2 dt37 79 14 21) 79 9 = dt37 79 9 := rfl
              have w83 : (u2 dt37 79 14 21) 79 10 = dt37 79 10 := rfl
              have w84 : (u2 dt37 79 14 21) 79 11 = dt37 79 11 := rfl
              have w85 : (u2 dt37 79 14 21) 79 12 = dt37 79 12 := rfl
              have w86 : (u2 dt37 79 14 21) 79 17 = dt37 79 17 := rfl
              have w87 : (u2 dt37 79 14 21) 79 20 = dt37 79 20 := rfl
              refine go_smpq PM159 (L' := [some (.inr (.inr (some 79))), none, none]) (st' := []) (w' := (SH, (u2 dt37 79 14 21))) rfl rfl (s_pf rfl rfl rfl rfl ⟨by decide, by decide⟩) ?_
              refine go_retq PM159 (k := 1) (r := none) (w1 := (SH, (u2 dt37 79 14 21))) rfl ?_
              exact ⟨(u2 dt37 79 14 21), rfl, hI75, hF76, ⟨rfl, ⟨by exact CUP_w q0 (by omega) (by omega) (pLt q5 (by omega)) (TE_l0 ⟨by omega, by omega⟩ (pLt q5 (by omega)) q1 (by omega) (.inr (pLf hb_h56 (by omega)))) hw_h61 rfl (by decide), by first | exact True.intro | assumption | rfl | omega | trivial, by first | exact True.intro | assumption | rfl | omega | trivial, by first | exact True.intro | assumption | rfl | omega | trivial, by first | exact True.intro | assumption | rfl | omega | trivial, by first | exact True.intro | assumption | rfl | omega | trivial, by first | exact True.intro | assumption | rfl | omega | trivial, by first | exact True.intro | assumption | rfl | omega | trivial, by first | exact True.intro | assumption | rfl | omega | trivial⟩⟩⟩
            · skip
              have hw_h61 := h61
              rw [show dt37 85 = dt 85 from funext (hF39 85 (by decide)), show dt37 79 12 = dt 79 12 by first | assumption | omega] at hw_h61
              refine go_toq PM159 (k := 1) (pc' := 122) (L' := [some (.inr (.inr (some 79))), none, none]) (st' := [.inl 22, .inr (.inr (some 79))]) (w' := (SH, dt37)) rfl ?_
              have hI88 : InvC (u2 dt37 79 14 22) := InvC_u2 hI38 (lo := -2147483648) (hi := 2147483647) rfl rfl rfl (by decide) (by decide)
              have hF89 : Fr [79] dt (u2 dt37 79 14 22) := Fr_u2 hF39 (by decide)
              have w90 : (u2 dt37 79 14 22) 79 13 = dt37 79 13 := rfl
              have w91 : (u2 dt37 79 14 22) 79 14 = 22 := rfl
              have w92 : (u2 dt37 79 14 22) 79 15 = dt37 79 15 := rfl
              have w93 : (u2 dt37 79 14 22) 79 16 = dt37 79 16 := rfl
              have w94 : (u2 dt37 79 14 22) 79 2 = dt37 79 2 := rfl
              have w95 : (u2 dt37 79 14 22) 79 9 = dt37 79 9 := rfl
              have w96 : (u2 dt37 79 14 22) 79 10 = dt37 79 10 := rfl
              have w97 : (u2 dt37 79 14 22) 79 11 = dt37 79 11 := rfl
              have w98 : (u2 dt37 79 14 22) 79 12 = dt37 79 12 := rfl
              have w99 : (u2 dt37 79 14 22) 79 17 = dt37 79 17 := rfl
              have w100 : (u2 dt37 79 14 22) 79 20 = dt37 79 20 := rfl
              refine go_smpq PM159 (L' := [some (.inr (.inr (some 79))), none, none]) (st' := []) (w' := (SH, (u2 dt37 79 14 22))) rfl rfl (s_pf rfl rfl rfl rfl ⟨by decide, by decide⟩) ?_
              refine go_retq PM159 (k := 1) (r := none) (w1 := (SH, (u2 dt37 79 14 22))) rfl ?_
              exact ⟨(u2 dt37 79 14 22), rfl, hI88, hF89, ⟨rfl, ⟨by exact CUP_w q0 (by omega) (by omega) (pLt q5 (by omega)) (TE_l0 ⟨by omega, by omega⟩ (pLt q5 (by omega)) q1 (by omega) (.inr (pLf hb_h56 (by omega)))) hw_h61 rfl (by decide), by first | exact True.intro | assumption | rfl | omega | trivial, by first | exact True.intro | assumption | rfl | omega | trivial, by first | exact True.intro | assumption | rfl | omega | trivial, by first | exact True.intro | assumption | rfl | omega | trivial, by first | exact True.intro | assumption | rfl | omega | trivial, by first | exact True.intro | assumption | rfl | omega | trivial, by first | exact True.intro | assumption | rfl | omega | trivial, by first | exact True.intro | assumption | rfl | omega | trivial⟩⟩⟩
            · skip
              have hw_h61 := h61
              rw [show dt37 85 = dt 85 from funext (hF39 85 (by decide)), show dt37 79 12 = dt 79 12 by first | assumption | omega] at hw_h61
              refine go_toq PM159 (k := 1) (pc' := 122) (L' := [some (.inr (.inr (some 79))), none, none]) (st' := [.inl 23, .inr (.inr (some 79))]) (w' := (SH, dt37)) rfl ?_
              have hI101 : InvC (u2 dt37 79 14 23) := InvC_u2 hI38 (lo := -2147483648) (hi := 2147483647) rfl rfl rfl (by decide) (by decide)
              have hF102 : Fr [79] dt (u2 dt37 79 14 23) := Fr_u2 hF39 (by decide)
              have w103 : (u2 dt37 79 14 23) 79 13 = dt37 79 13 := rfl
              have w104 : (u2 dt37 79 14 23) 79 14 = 23 := rfl
              have w105 : (u2 dt37 79 14 23) 79 15 = dt37 79 15 := rfl
              have w106 : (u2 dt37 79 14 23) 79 16 = dt37 79 16 := rfl
              have w107 : (u2 dt37 79 14 23) 79 2 = dt37 79 2 := rfl
              have w108 : (u2 dt37 79 14 23) 79 9 = dt37 79 9 := rfl
              have w109 : (u2 dt37 79 14 23) 79 10 = dt37 79 10 := rfl
              have w110 : (u2 dt37 79 14 23) 79 11 = dt37 79 11 := rfl
              have w111 : (u2 dt37 79 14 23) 79 12 = dt37 79 12 := rfl
              have w112 : (u2 dt37 79 14 23) 79 17 = dt37 79 17 := rfl
              have w113 : (u2 dt37 79 14 23) 79 20 = dt37 79 20 := rfl
              refine go_smpq PM159 (L' := [some (.inr (.inr (some 79))), none, none]) (st' := []) (w' := (SH, (u2 dt37 79 14 23))) rfl rfl (s_pf rfl rfl rfl rfl ⟨by decide, by decide⟩) ?_
              refine go_retq PM159 (k := 1) (r := none) (w1 := (SH, (u2 dt37 79 14 23))) rfl ?_
              exact ⟨(u2 dt37 79 14 23), rfl, hI101, hF102, ⟨rfl, ⟨by exact CUP_w q0 (by omega) (by omega) (pLt q5 (by omega)) (TE_l0 ⟨by omega, by omega⟩ (pLt q5 (by omega)) q1 (by omega) (.inr (pLf hb_h56 (by omega)))) hw_h61 rfl (by decide), by first | exact True.intro | assumption | rfl | omega | trivial, by first | exact True.intro | assumption | rfl | omega | trivial, by first | exact True.intro | assumption | rfl | omega | trivial, by first | exact True.intro | assumption | rfl | omega | trivial, by first | exact True.intro | assumption | rfl | omega | trivial, by first | exact True.intro | assumption | rfl | omega | trivial, by first | exact True.intro | assumption | rfl | omega | trivial, by first | exact True.intro | assumption | rfl | omega | trivial⟩⟩⟩
            · skip
              have hw_h61 := h61
              rw [show dt37 85 = dt 85 from funext (hF39 85 (by decide)), show dt37 79 12 = dt 79 12 by first | assumption | omega] at hw_h61
              refine go_toq PM159 (k := 1) (pc' := 122) (L' := [some (.inr (.inr (some 79))), none, none]) (st' := [.inl 24, .inr (.inr (some 79))]) (w' := (SH, dt37)) rfl ?_
              have hI114 : InvC (u2 dt37 79 14 24) := InvC_u2 hI38 (lo := -2147483648) (hi := 2147483647) rfl rfl rfl (by decide) (by decide)
              have hF115 : Fr [79] dt (u2 dt37 79 14 24) := Fr_u2 hF39 (by decide)
              have w116 : (u2 dt37 79 14 24) 79 13 = dt37 79 13 := rfl
              have w117 : (u2 dt37 79 14 24) 79 14 = 24 := rfl
              have w118 : (u2 dt37 79 14 24) 79 15 = dt37 79 15 := rfl
              have w119 : (u2 dt37 79 14 24) 79 16 = dt37 79 16 := rfl
              have w120 : (u2 dt37 79 14 24) 79 2 = dt37 79 2 := rfl
              have w121 : (u2 dt37 79 14 24) 79 9 = dt37 79 9 := rfl
              have w122 : (u2 dt37 79 14 24) 79 10 = dt37 79 10 := rfl
              have w123 : (u2 dt37 79 14 24) 79 11 = dt37 79 11 := rfl
              have w124 : (u2 dt37 79 14 24) 79 12 = dt37 79 12 := rfl
              have w125 : (u2 dt37 79 14 24) 79 17 = dt37 79 17 := rfl
              have w126 : (u2 dt37 79 14 24) 79 20 = dt37 79 20 := rfl
              refine go_smpq PM159 (L' := [some (.inr (.inr (some 79))), none, none]) (st' := []) (w' := (SH, (u2 dt37 79 14 24))) rfl rfl (s_pf rfl rfl rfl rfl ⟨by decide, by decide⟩) ?_
              refine go_retq PM159 (k := 1) (r := none) (w1 := (SH, (u2 dt37 79 14 24))) rfl ?_
              exact ⟨(u2 dt37 79 14 24), rfl, hI114, hF115, ⟨rfl, ⟨by exact CUP_w q0 (by omega) (by omega) (pLt q5 (by omega)) (TE_l0 ⟨by omega, by omega⟩ (pLt q5 (by omega)) q1 (by omega) (.inr (pLf hb_h56 (by omega)))) hw_h61 rfl (by decide), by first | exact True.intro | assumption | rfl | omega | trivial, by first | exact True.intro | assumption | rfl | omega | trivial, by first | exact True.intro | assumption | rfl | omega | trivial, by first | exact True.intro | assumption | rfl | omega | trivial, by first | exact True.intro | assumption | rfl | omega | trivial, by first | exact True.intro | assumption | rfl | omega | trivial, by first | exact True.intro | assumption | rfl | omega | trivial, by first | exact True.intro | assumption | rfl | omega | trivial⟩⟩⟩
            · skip
              have hw_h61 := h61
              rw [show dt37 85 = dt 85 from funext (hF39 85 (by decide)), show dt37 79 12 = dt 79 12 by first | assumption | omega] at hw_h61
              refine go_toq PM159 (k := 1) (pc' := 122) (L' := [some (.inr (.inr (some 79))), none, none]) (st' := [.inl 25, .inr (.inr (some 79))]) (w' := (SH, dt37)) rfl ?_
              have hI127 : InvC (u2 dt37 79 14 25) := InvC_u2 hI38 (lo := -2147483648) (hi := 2147483647) rfl rfl rfl (by decide) (by decide)
              have hF128 : Fr [79] dt (u2 dt37 79 14 25) := Fr_u2 hF39 (by decide)
              have w129 : (u2 dt37 79 14 25) 79 13 = dt37 79 13 := rfl
              have w130 : (u2 dt37 79 14 25) 79 14 = 25 := rfl
              have w131 : (u2 dt37 79 14 25) 79 15 = dt37 79 15 := rfl
              have w132 : (u2 dt37 79 14 25) 79 16 = dt37 79 16 := rfl
              have w133 : (u2 dt37 79 14 25) 79 2 = dt37 79 2 := rfl
              have w134 : (u2 dt37 79 14 25) 79 9 = dt37 79 9 := rfl
              have w135 : (u2 dt37 79 14 25) 79 10 = dt37 79 10 := rfl
              have w136 : (u2 dt37 79 14 25) 79 11 = dt37 79 11 := rfl
              have w137 : (u2 dt37 79 14 25) 79 12 = dt37 79 12 := rfl
              have w138 : (u2 dt37 79 14 25) 79 17 = dt37 79 17 := rfl
              have w139 : (u2 dt37 79 14 25) 79 20 = dt37 79 20 := rfl
              refine go_smpq PM159 (L' := [some (.inr (.inr (some 79))), none, none]) (st' := []) (w' := (SH, (u2 dt37 79 14 25))) rfl rfl (s_pf rfl rfl rfl rfl ⟨by decide, by decide⟩) ?_
              refine go_retq PM159 (k := 1) (r := none) (w1 := (SH, (u2 dt37 79 14 25))) rfl ?_
              exact ⟨(u2 dt37 79 14 25), rfl, hI127, hF128, ⟨rfl, ⟨by exact CUP_w q0 (by omega) (by omega) (pLt q5 (by omega)) (TE_l0 ⟨by omega, by omega⟩ (pLt q5 (by omega)) q1 (by omega) (.inr (pLf hb_h56 (by omega)))) hw_h61 rfl (by decide), by first | exact True.intro | assumption | rfl | omega | trivial, by first | exact True.intro | assumption | rfl | omega | trivial, by first | exact True.intro | assumption | rfl | omega | trivial, by first | exact True.intro | assumption | rfl | omega | trivial, by first | exact True.intro | assumption | rfl | omega | trivial, by first | exact True.intro | assumption | rfl | omega | trivial, by first | exact True.intro | assumption | rfl | omega | trivial, by first | exact True.intro | assumption | rfl | omega | trivial⟩⟩⟩
            · skip
              have hw_h61 := h61
              rw [show dt37 85 = dt 85 from funext (hF39 85 (by decide)), show dt37 79 12 = dt 79 12 by first | assumption | omega] at hw_h61
              refine go_toq PM159 (k := 1) (pc' := 122) (L' := [some (.inr (.inr (some 79))), none, none]) (st' := [.inl 26, .inr (.inr (some 79))]) (w' := (SH, dt37)) rfl ?_
              have hI140 : InvC (u2 dt37 79 14 26) := InvC_u2 hI38 (lo := -2147483648) (hi := 2147483647) rfl rfl rfl (by decide) (by decide)
              have hF141 : Fr [79] dt (u2 dt37 79 14 26) := Fr_u2 hF39 (by decide)
              have w142 : (u2 dt37 79 14 26) 79 13 = dt37 79 13 := rfl
              have w143 : (u2 dt37 79 14 26) 79 14 = 26 := rfl
              have w144 : (u2 dt37 79 14 26) 79 15 = dt37 79 15 := rfl
              have w145 : (u2 dt37 79 14 26) 79 16 = dt37 79 16 := rfl
              have w146 : (u2 dt37 79 14 26) 79 2 = dt37 79 2 := rfl
              have w147 : (u2 dt37 79 14 26) 79 9 = dt37 79 9 := rfl
              have w148 : (u2 dt37 79 14 26) 79 10 = dt37 79 10 := rfl
              have w149 : (u2 dt37 79 14 26) 79 11 = dt37 79 11 := rfl
              have w150 : (u2 dt37 79 14 26) 79 12 = dt37 79 12 := rfl
              have w151 : (u2 dt37 79 14 26) 79 17 = dt37 79 17 := rfl
              have w152 : (u2 dt37 79 14 26) 79 20 = dt37 79 20 := rfl
              refine go_smpq PM159 (L' := [some (.inr (.inr (some 79))), none, none]) (st' := []) (w' := (SH, (u2 dt37 79 14 26))) rfl rfl (s_pf rfl rfl rfl rfl ⟨by decide, by decide⟩) ?_
              refine go_retq PM159 (k := 1) (r := none) (w1 := (SH, (u2 dt37 79 14 26))) rfl ?_
              exact ⟨(u2 dt37 79 14 26), rfl, hI140, hF141, ⟨rfl, ⟨by exact CUP_w q0 (by omega) (by omega) (pLt q5 (by omega)) (TE_l0 ⟨by omega, by omega⟩ (pLt q5 (by omega)) q1 (by omega) (.inr (pLf hb_h56 (by omega)))) hw_h61 rfl (by decide), by first | exact True.intro | assumption | rfl | omega | trivial, by first | exact True.intro | assumption | rfl | omega | trivial, by first | exact True.intro | assumption | rfl | omega | trivial, by first | exact True.intro | assumption | rfl | omega | trivial, by first | exact True.intro | assumption | rfl | omega | trivial, by first | exact True.intro | assumption | rfl | omega | trivial, by first | exact True.intro | assumption | rfl | omega | trivial, by first | exact True.intro | assumption | rfl | omega | trivial⟩⟩⟩
            · skip
              have hw_h61 := h61
              rw [show dt37 85 = dt 85 from funext (hF39 85 (by decide)), show dt37 79 12 = dt 79 12 by first | assumption | omega] at hw_h61
              refine go_toq PM159 (k := 1) (pc' := 122) (L' := [some (.inr (.inr (some 79))), none, none]) (st' := [.inl 27, .inr (.inr (some 79))]) (w' := (SH, dt37)) rfl ?_
              have hI153 : InvC (u2 dt37 79 14 27) := InvC_u2 hI38 (lo := -2147483648) (hi := 2147483647) rfl rfl rfl (by decide) (by decide)
              have hF154 : Fr [79] dt (u2 dt37 79 14 27) := Fr_u2 hF39 (by decide)
              have w155 : (u2 dt37 79 14 27) 79 13 = dt37 79 13 := rfl
              have w156 : (u2 dt37 79 14 27) 79 14 = 27 := rfl
              have w157 : (u2 dt37 79 14 27) 79 15 = dt37 79 15 := rfl
              have w158 : (u2 dt37 79 14 27) 79 16 = dt37 79 16 := rfl
              have w159 : (u2 dt37 79 14 27) 79 2 = dt37 79 2 := rfl
              have w160 : (u2 dt37 79 14 27) 79 9 = dt37 79 9 := rfl
              have w161 : (u2 dt37 79 14 27) 79 10 = dt37 79 10 := rfl
              have w162 : (u2 dt37 79 14 27) 79 11 = dt37 79 11 := rfl
              have w163 : (u2 dt37 79 14 27) 79 12 = dt37 79 12 := rfl
              have w164 : (u2 dt37 79 14 27) 79 17 = dt37 79 17 := rfl
              have w165 : (u2 dt37 79 14 27) 79 20 = dt37 79 20 := rfl
              refine go_smpq PM159 (L' := [some (.inr (.inr (some 79))), none, none]) (st' := []) (w' := (SH, (u2 dt37 79 14 27))) rfl rfl (s_pf rfl rfl rfl rfl ⟨by decide, by decide⟩) ?_
              refine go_retq PM159 (k := 1) (r := none) (w1 := (SH, (u2 dt37 79 14 27))) rfl ?_
              exact ⟨(u2 dt37 79 14 27), rfl, hI153, hF154, ⟨rfl, ⟨by exact CUP_w q0 (by omega) (by omega) (pLt q5 (by omega)) (TE_l0 ⟨by omega, by omega⟩ (pLt q5 (by omega)) q1 (by omega) (.inr (pLf hb_h56 (by omega)))) hw_h61 rfl (by decide), by first | exact True.intro | assumption | rfl | omega | trivial, by first | exact True.intro | assumption | rfl | omega | trivial, by first | exact True.intro | assumption | rfl | omega | trivial, by first | exact True.intro | assumption | rfl | omega | trivial, by first | exact True.intro | assumption | rfl | omega | trivial, by first | exact True.intro | assumption | rfl | omega | trivial, by first | exact True.intro | assumption | rfl | omega | trivial, by first | exact True.intro | assumption | rfl | omega | trivial⟩⟩⟩
            · skip
              have hw_h61 := h61
              rw [show dt37 85 = dt 85 from funext (hF39 85 (by decide)), show dt37 79 12 = dt 79 12 by first | assumption | omega] at hw_h61
              refine go_toq PM159 (k := 1) (pc' := 122) (L' := [some (.inr (.inr (some 79))), none, none]) (st' := [.inl 28, .inr (.inr (some 79))]) (w' := (SH, dt37)) rfl ?_
              have hI166 : InvC (u2 dt37 79 14 28) := InvC_u2 hI38 (lo := -2147483648) (hi := 2147483647) rfl rfl rfl (by decide) (by decide)
              have hF167 : Fr [79] dt (u2 dt37 79 14 28) := Fr_u2 hF39 (by decide)
              have w168 : (u2 dt37 79 14 28) 79 13 = dt37 79 13 := rfl
              have w169 : (u2 dt37 79 14 28) 79 14 = 28 := rfl
              have w170 : (u2 dt37 79 14 28) 79 15 = dt37 79 15 := rfl
              have w171 : (u2 dt37 79 14 28) 79 16 = dt37 79 16 := rfl
              have w172 : (u2 dt37 79 14 28) 79 2 = dt37 79 2 := rfl
              have w173 : (u2 dt37 79 14 28) 79 9 = dt37 79 9 := rfl
              have w174 : (u2 dt37 79 14 28) 79 10 = dt37 79 10 := rfl
              have w175 : (u2 dt37 79 14 28) 79 11 = dt37 79 11 := rfl
              have w176 : (u2 dt37 79 14 28) 79 12 = dt37 79 12 := rfl
              have w177 : (u2 dt37 79 14 28) 79 17 = dt37 79 17 := rfl
              have w178 : (u2 dt37 79 14 28) 79 20 = dt37 79 20 := rfl
              refine go_smpq PM159 (L' := [some (.inr (.inr (some 79))), none, none]) (st' := []) (w' := (SH, (u2 dt37 79 14 28))) rfl rfl (s_pf rfl rfl rfl rfl ⟨by decide, by decide⟩) ?_
              refine go_retq PM159 (k := 1) (r := none) (w1 := (SH, (u2 dt37 79 14 28))) rfl ?_
              exact ⟨(u2 dt37 79 14 28), rfl, hI166, hF167, ⟨rfl, ⟨by exact CUP_w q0 (by omega) (by omega) (pLt q5 (by omega)) (TE_l0 ⟨by omega, by omega⟩ (pLt q5 (by omega)) q1 (by omega) (.inr (pLf hb_h56 (by omega)))) hw_h61 rfl (by decide), by first | exact True.intro | assumption | rfl | omega | trivial, by first | exact True.intro | assumption | rfl | omega | trivial, by first | exact True.intro | assumption | rfl | omega | trivial, by first | exact True.intro | assumption | rfl | omega | trivial, by first | exact True.intro | assumption | rfl | omega | trivial, by first | exact True.intro | assumption | rfl | omega | trivial, by first | exact True.intro | assumption | rfl | omega | trivial, by first | exact True.intro | assumption | rfl | omega | trivial⟩⟩⟩
            · skip
              have hw_h61 := h61
              rw [show dt37 85 = dt 85 from funext (hF39 85 (by decide)), show dt37 79 12 = dt 79 12 by first | assumption | omega] at hw_h61
              refine go_toq PM159 (k := 1) (pc' := 122) (L' := [some (.inr (.inr (some 79))), none, none]) (st' := [.inl 1, .inr (.inr (some 79))]) (w' := (SH, dt37)) rfl ?_
              have hI179 : InvC (u2 dt37 79 14 1) := InvC_u2 hI38 (lo := -2147483648) (hi := 2147483647) rfl rfl rfl (by decide) (by decide)
              have hF180 : Fr [79] dt (u2 dt37 79 14 1) := Fr_u2 hF39 (by decide)
              have w181 : (u2 dt37 79 14 1) 79 13 = dt37 79 13 := rfl
              have w182 : (u2 dt37 79 14 1) 79 14 = 1 := rfl
              have w183 : (u2 dt37 79 14 1) 79 15 = dt37 79 15 := rfl
              have w184 : (u2 dt37 79 14 1) 79 16 = dt37 79 16 := rfl
              have w185 : (u2 dt37 79 14 1) 79 2 = dt37 79 2 := rfl
              have w186 : (u2 dt37 79 14 1) 79 9 = dt37 79 9 := rfl
              have w187 : (u2 dt37 79 14 1) 79 10 = dt37 79 10 := rfl
              have w188 : (u2 dt37 79 14 1) 79 11 = dt37 79 11 := rfl
              have w189 : (u2 dt37 79 14 1) 79 12 = dt37 79 12 := rfl
              have w190 : (u2 dt37 79 14 1) 79 17 = dt37 79 17 := rfl
              have w191 : (u2 dt37 79 14 1) 79 20 = dt37 79 20 := rfl
              refine go_smpq PM159 (L' := [some (.inr (.inr (some 79))), none, none]) (st' := []) (w' := (SH, (u2 dt37 79 14 1))) rfl rfl (s_pf rfl rfl rfl rfl ⟨by decide, by decide⟩) ?_
              refine go_retq PM159 (k := 1) (r := none) (w1 := (SH, (u2 dt37 79 14 1))) rfl ?_
              exact ⟨(u2 dt37 79 14 1), rfl, hI179, hF180, ⟨rfl, ⟨by exact CUP_w q0 (by omega) (by omega) (pLt q5 (by omega)) (TE_l0 ⟨by omega, by omega⟩ (pLt q5 (by omega)) q1 (by omega) (.inr (pLf hb_h56 (by omega)))) hw_h61 rfl (by decide), by first | exact True.intro | assumption | rfl | omega | trivial, by first | exact True.intro | assumption | rfl | omega | trivial, by first | exact True.intro | assumption | rfl | omega | trivial, by first | exact True.intro | assumption | rfl | omega | trivial, by first | exact True.intro | assumption | rfl | omega | trivial, by first | exact True.intro | assumption | rfl | omega | trivial, by first | exact True.intro | assumption | rfl | omega | trivial, by first | exact True.intro | assumption | rfl | omega | trivial⟩⟩⟩
        · skip
          refine go_toq PM159 (k := 5) (pc' := 97) (L' := [some (.inr (.inr (some 79))), none, none]) (st' := [.inl ((dt37 79 13) + 1), .inr (.inr (some 79))]) (w' := (SH, dt37)) rfl ?_
          have hI192 : InvC (u2 dt37 79 13 ((dt37 79 13) + 1)) := InvC_u2 hI38 (lo := 0) (hi := 501) rfl rfl rfl (by omega) (by omega)
          have hF193 : Fr [79] dt (u2 dt37 79 13 ((dt37 79 13) + 1)) := Fr_u2 hF39 (by decide)
          have w194 : (u2 dt37 79 13 ((dt37 79 13) + 1)) 79 13 = (dt37 79 13) + 1 := rfl
          have w195 : (u2 dt37 79 13 ((dt37 79 13) + 1)) 79 14 = dt37 79 14 := rfl
          have w196 : (u2 dt37 79 13 ((dt37 79 13) + 1)) 79 15 = dt37 79 15 := rfl
          have w197 : (u2 dt37 79 13 ((dt37 79 13) + 1)) 79 16 = dt37 79 16 := rfl
          have w198 : (u2 dt37 79 13 ((dt37 79 13) + 1)) 79 2 = dt37 79 2 := rfl
          have w199 : (u2 dt37 79 13 ((dt37 79 13) + 1)) 79 9 = dt37 79 9 := rfl
          have w200 : (u2 dt37 79 13 ((dt37 79 13) + 1)) 79 10 = dt37 79 10 := rfl
          have w201 : (u2 dt37 79 13 ((dt37 79 13) + 1)) 79 11 = dt37 79 11 := rfl
          have w202 : (u2 dt37 79 13 ((dt37 79 13) + 1)) 79 12 = dt37 79 12 := rfl
          have w203 : (u2 dt37 79 13 ((dt37 79 13) + 1)) 79 17 = dt37 79 17 := rfl
          have w204 : (u2 dt37 79 13 ((dt37 79 13) + 1)) 79 20 = dt37 79 20 := rfl
          refine go_smpq PM159 (L' := [some (.inr (.inr (some 79))), none, none]) (st' := []) (w' := (SH, (u2 dt37 79 13 ((dt37 79 13) + 1)))) rfl rfl (s_pf rfl rfl rfl rfl (by first | exact bndp r55 (by decide) (by decide) | exact ⟨by omega, by omega⟩)) ?_
          refine go_toq PM159 (k := 1) (pc' := 76) (L' := [some (.inr (.inr (some 79))), none, none]) (st' := []) (w' := (SH, (u2 dt37 79 13 ((dt37 79 13) + 1)))) rfl ?_
          exact GO.le (ih_loop54 (u2 dt37 79 13 ((dt37 79 13) + 1)) hI192 hF193 (by first | omega | rfl | (rw [show (dt 79 15).toNat = (dt 79 13).toNat by first | assumption | omega]; exact h_p4) | exact h_p3 | exact q0 | exact q5 | exact q5 | (rw [show (dt 79 13).toNat = (dt 79 15).toNat by first | assumption | omega]) | exact RN_st q1 (by omega) (by omega) (pLt hb_h56 (by omega))) (by first | omega | rfl | (rw [show (dt 79 15).toNat = (dt 79 13).toNat by first | assumption | omega]; exact h_p4) | exact h_p3 | exact q0 | exact q5 | exact q5 | (rw [show (dt 79 13).toNat = (dt 79 15).toNat by first | assumption | omega]) | exact RN_st q1 (by omega) (by omega) (pLt hb_h56 (by omega))) (by first | omega | rfl | (rw [show (dt 79 15).toNat = (dt 79 13).toNat by first | assumption | omega]; exact h_p4) | exact h_p3 | exact q0 | exact q5 | exact q5 | (rw [show (dt 79 13).toNat = (dt 79 15).toNat by first | assumption | omega]) | exact RN_st q1 (by omega) (by omega) (pLt hb_h56 (by omega))) (by first | omega | rfl | (rw [show (dt 79 15).toNat = (dt 79 13).toNat by first | assumption | omega]; exact h_p4) | exact h_p3 | exact q0 | exact q5 | exact q5 | (rw [show (dt 79 13).toNat = (dt 79 15).toNat by first | assumption | omega]) | exact RN_st q1 (by omega) (by omega) (pLt hb_h56 (by omega))) (by first | omega | rfl | (rw [show (dt 79 15).toNat = (dt 79 13).toNat by first | assumption | omega]; exact h_p4) | exact h_p3 | exact q0 | exact q5 | exact q5 | (rw [show (dt 79 13).toNat = (dt 79 15).toNat by first | assumption | omega]) | exact RN_st q1 (by omega) (by omega) (pLt hb_h56 (by omega))) (by first | omega | rfl | (rw [show (dt 79 15).toNat = (dt 79 13).toNat by first | assumption | omega]; exact h_p4) | exact h_p3 | exact q0 | exact q5 | exact q5 | (rw [show (dt 79 13).toNat = (dt 79 15).toNat by first | assumption | omega]) | exact RN_st q1 (by omega) (by omega) (pLt hb_h56 (by omega))) (by first | omega | rfl | (rw [show (dt 79 15).toNat = (dt 79 13).toNat by first | assumption | omega]; exact h_p4) | exact h_p3 | exact q0 | exact q5 | exact q5 | (rw [show (dt 79 13).toNat = (dt 79 15).toNat by first | assumption | omega]) | exact RN_st q1 (by omega) (by omega) (pLt hb_h56 (by omega))) (by first | omega | rfl | (rw [show (dt 79 15).toNat = (dt 79 13).toNat by first | assumption | omega]; exact h_p4) | exact h_p3 | exact q0 | exact q5 | exact q5 | (rw [show (dt 79 13).toNat = (dt 79 15).toNat by first | assumption | omega]) | exact RN_st q1 (by omega) (by omega) (pLt hb_h56 (by omega))) (by first | omega | rfl | (rw [show (dt 79 15).toNat = (dt 79 13).toNat by first | assumption | omega]; exact h_p4) | exact h_p3 | exact q0 | exact q5 | exact q5 | (rw [show (dt 79 13).toNat = (dt 79 15).toNat by first | assumption | omega]) | exact RN_st q1 (by omega) (by omega) (pLt hb_h56 (by omega))) (by first | omega | rfl | (rw [show (dt 79 15).toNat = (dt 79 13).toNat by first | assumption | omega]; exact h_p4) | exact h_p3 | exact q0 | exact q5 | exact q5 | (rw [show (dt 79 13).toNat = (dt 79 15).toNat by first | assumption | omega]) | exact RN_st q1 (by omega) (by omega) (pLt hb_h56 (by omega))) (by first | omega | rfl | (rw [show (dt 79 15).toNat = (dt 79 13).toNat by first | assumption | omega]; exact h_p4) | exact h_p3 | exact q0 | exact q5 | exact q5 | (rw [show (dt 79 13).toNat = (dt 79 15).toNat by first | assumption | omega]) | exact RN_st q1 (by omega) (by omega) (pLt hb_h56 (by omega))) (by first | omega | rfl | (rw [show (dt 79 15).toNat = (dt 79 13).toNat by first | assumption | omega]; exact h_p4) | exact h_p3 | exact q0 | exact q5 | exact q5 | (rw [show (dt 79 13).toNat = (dt 79 15).toNat by first | assumption | omega]) | exact RN_st q1 (by omega) (by omega) (pLt hb_h56 (by omega))) (by first | omega | rfl | (rw [show (dt 79 15).toNat = (dt 79 13).toNat by first | assumption | omega]; exact h_p4) | exact h_p3 | exact q0 | exact q5 | exact q5 | (rw [show (dt 79 13).toNat = (dt 79 15).toNat by first | assumption | omega]) | exact RN_st q1 (by omega) (by omega) (pLt hb_h56 (by omega))) (by first | omega | rfl | (rw [show (dt 79 15).toNat = (dt 79 13).toNat by first | assumption | omega]; exact h_p4) | exact h_p3 | exact q0 | exact q5 | exact q5 | (rw [show (dt 79 13).toNat = (dt 79 15).toNat by first | assumption | omega]) | exact RN_st q1 (by omega) (by omega) (pLt hb_h56 (by omega))) (by omega)) ⟨.inl rfl, .inl rfl, .inl rfl, trivial⟩
      · skip
        refine go_callq PM159 PM154 (Q' := _) rfl rfl rfl rfl (sp_X6_isLetter L xs sio (d + 4) dt37 hI38  (-1) ⟨by decide, by decide⟩ ) ?_
        rintro _ _ ⟨rfl, h205⟩
        refine ⟨rfl, ?_⟩
        rcases h205 with ⟨v_h205, rfl, h205r, h205⟩
        refine go_ifq PM159 (k := 0) (p1 := 103) (p2 := 90) (L' := [some (.inr (.inr (some 79))), none, none]) (st' := []) (w' := (SH, dt37)) rfl (z_eq (a := v_h205) (by first | exact bnd h205r (by decide) (by decide) | exact ⟨by omega, by omega⟩)) (fun c206 => ?_) (fun c206 => ?_)
        · skip
          have r207 : 0 ≤ dt37 79 9 ∧ dt37 79 9 ≤ 1 := InvC_get hI38 79 9 rfl rfl
          refine go_ifq PM159 (k := 3) (p1 := 118) (p2 := 111) (L' := [some (.inr (.inr (some 79))), none, none]) (st' := [.inr (.inr (some 79))]) (w' := (SH, dt37)) rfl (z_ne (a := dt37 79 9) (by first | exact bnd r207 (by decide) (by decide) | exact ⟨by omega, by omega⟩)) (fun c208 => ?_) (fun c208 => ?_)
          · skip
            exfalso; omega
          · skip
            refine go_toq PM159 (k := 1) (pc' := 112) (L' := [some (.inr (.inr (some 79))), none, none]) (st' := [.inr (.inr (some 79)), .inr (.inr (some 79))]) (w' := (SH, dt37)) rfl ?_
            refine go_callq PM159 PM157 (Q' := _) rfl rfl rfl rfl (sp_X6_actWord_f L xs sio (d + 0) dt37 hI38   (by first | exact True.intro | assumption | rfl | omega | trivial) (by first | exact True.intro | assumption | rfl | omega | trivial) (by first | exact True.intro | assumption | rfl | omega | trivial)) ?_
            rintro _ _ ⟨rfl, h209⟩
            refine ⟨rfl, ?_⟩
            rcases h209 with ⟨rfl, h209⟩ | ⟨rfl, h209⟩ | ⟨rfl, h209⟩ | ⟨rfl, h209⟩ | ⟨rfl, h209⟩ | ⟨rfl, h209⟩ | ⟨rfl, h209⟩ | ⟨rfl, h209⟩ | ⟨rfl, h209⟩ | ⟨rfl, h209⟩
            · skip
              have hw_h209 := h209
              rw [show dt37 85 = dt 85 from funext (hF39 85 (by decide)), show dt37 79 12 = dt 79 12 by first | assumption | omega] at hw_h209
              refine go_toq PM159 (k := 1) (pc' := 122) (L' := [some (.inr (.inr (some 79))), none, none]) (st' := [.inl 20, .inr (.inr (some 79))]) (w' := (SH, dt37)) rfl ?_
              have hI210 : InvC (u2 dt37 79 14 20) := InvC_u2 hI38 (lo := -2147483648) (hi := 2147483647) rfl rfl rfl (by decide) (by decide)
              have hF211 : Fr [79] dt (u2 dt37 79 14 20) := Fr_u2 hF39 (by decide)
              have w212 : (u2 dt37 79 14 20) 79 13 = dt37 79 13 := rfl
              have w213 : (u2 dt37 79 14 20) 79 14 = 20 := rfl
              have w214 : (u2 dt37 79 14 20) 79 15 = dt37 79 15 := rfl
              have w215 : (u2 dt37 79 14 20) 79 16 = dt37 79 16 := rfl
              have w216 : (u2 dt37 79 14 20) 79 2 = dt37 79 2 := rfl
              have w217 : (u2 dt37 79 14 20) 79 9 = dt37 79 9 := rfl
              have w218 : (u2 dt37 79 14 20) 79 10 = dt37 79 10 := rfl
              have w219 : (u2 dt37 79 14 20) 79 11 = dt37 79 11 := rfl
              have w220 : (u2 dt37 79 14 20) 79 12 = dt37 79 12 := rfl
              have w221 : (u2 dt37 79 14 20) 79 17 = dt37 79 17 := rfl
              have w222 : (u2 dt37 79 14 20) 79 20 = dt37 79 20 := rfl
              refine go_smpq PM159 (L' := [some (.inr (.inr (some 79))), none, none]) (st' := []) (w' := (SH, (u2 dt37 79 14 20))) rfl rfl (s_pf rfl rfl rfl rfl ⟨by decide, by decide⟩) ?_
              refine go_retq PM159 (k := 1) (r := none) (w1 := (SH, (u2 dt37 79 14 20))) rfl ?_
              exact ⟨(u2 dt37 79 14 20), rfl, hI210, hF211, ⟨rfl, ⟨by exact CUP_w q0 (by omega) (by omega) (pLt q5 (by omega)) (TE_l0 ⟨by omega, by omega⟩ (pLt q5 (by omega)) q1 (by omega) (.inl (by omega))) hw_h209 rfl (by decide), by first | exact True.intro | assumption | rfl | omega | trivial, by first | exact True.intro | assumption | rfl | omega | trivial, by first | exact True.intro | assumption | rfl | omega | trivial, by first | exact True.intro | assumption | rfl | omega | trivial, by first | exact True.intro | assumption | rfl | omega | trivial, by first | exact True.intro | assumption | rfl | omega | trivial, by first | exact True.intro | assumption | rfl | omega | trivial, by first | exact True.intro | assumption | rfl | omega | trivial⟩⟩⟩
            · skip
              have hw_h209 := h209
              rw [show dt37 85 = dt 85 from funext (hF39 85 (by decide)), show dt37 79 12 = dt 79 12 by first | assumption | omega] at hw_h209
              refine go_toq PM159 (k := 1) (pc' := 122) (L' := [some (.inr (.inr (some 79))), none, none]) (st' := [.inl 21, .inr (.inr (some 79))]) (w' := (SH, dt37)) rfl ?_
              have hI223 : InvC (u2 dt37 79 14 21) := InvC_u2 hI38 (lo := -2147483648) (hi := 2147483647) rfl rfl rfl (by decide) (by decide)
              have hF224 : Fr [79] dt (u2 dt37 79 14 21) := Fr_u2 hF39 (by decide)
              have w225 : (u2 dt37 79 14 21) 79 13 = dt37 79 13 := rfl
              have w226 : (u2 dt37 79 14 21) 79 14 = 21 := rfl
              have w227 : (u2 dt37 79 14 21) 79 15 = dt37 79 15 := rfl
              have w228 : (u2 dt37 79 14 21) 79 16 = dt37 79 16 := rfl
              have w229 : (u2 dt37 79 14 21) 79 2 = dt37 79 2 := rfl
              have w230 : (u2 dt37 79 14 21) 79 9 = dt37 79 9 := rfl
              have w231 : (u2 dt37 79 14 21) 79 10 = dt37 79 10 := rfl
              have w232 : (u2 dt37 79 14 21) 79 11 = dt37 79 11 := rfl
              have w233 : (u2 dt37 79 14 21) 79 12 = dt37 79 12 := rfl
              have w234 : (u2 dt37 79 14 21) 79 17 = dt37 79 17 := rfl
              have w235 : (u2 dt37 79 14 21) 79 20 = dt37 79 20 := rfl
              refine go_smpq PM159 (L' := [some (.inr (.inr (some 79))), none, none]) (st' := []) (w' := (SH, (u2 dt37 79 14 21))) rfl rfl (s_pf rfl rfl rfl rfl ⟨by decide, by decide⟩) ?_
              refine go_retq PM159 (k := 1) (r := none) (w1 := (SH, (u2 dt37 79 14 21))) rfl ?_
              exact ⟨(u2 dt37 79 14 21), rfl, hI223, hF224, ⟨rfl, ⟨by exact CUP_w q0 (by omega) (by omega) (pLt q5 (by omega)) (TE_l0 ⟨by omega, by omega⟩ (pLt q5 (by omega)) q1 (by omega) (.inl (by omega))) hw_h209 rfl (by decide), by first | exact True.intro | assumption | rfl | omega | trivial, by first | exact True.intro | assumption | rfl | omega | trivial, by first | exact True.intro | assumption | rfl | omega | trivial, by first | exact True.intro | assumption | rfl | omega | trivial, by first | exact True.intro | assumption | rfl | omega | trivial, by first | exact True.intro | assumption | rfl | omega | trivial, by first | exact True.intro | assumption | rfl | omega | trivial, by first | exact True.intro | assumption | rfl | omega | trivial⟩⟩⟩
            · skip
              have hw_h209 := h209
              rw [show dt37 85 = dt 85 from funext (hF39 85 (by decide)), show dt37 79 12 = dt 79 12 by first | assumption | omega] at hw_h209
              refine go_toq PM159 (k := 1) (pc' := 122) (L' := [some (.inr (.inr (some 79))), none, none]) (st' := [.inl 22, .inr (.inr (some 79))]) (w' := (SH, dt37)) rfl ?_
              have hI236 : InvC (u2 dt37 79 14 22) := InvC_u2 hI38 (lo := -2147483648) (hi := 2147483647) rfl rfl rfl (by decide) (by decide)
              have hF237 : Fr [79] dt (u2 dt37 79 14 22) := Fr_u2 hF39 (by decide)
              have w238 : (u2 dt37 79 14 22) 79 13 = dt37 79 13 := rfl
              have w239 : (u2 dt37 79 14 22) 79 14 = 22 := rfl
              have w240 : (u2 dt37 79 14 22) 79 15 = dt37 79 15 := rfl
              have w241 : (u2 dt37 79 14 22) 79 16 = dt37 79 16 := rfl
              have w242 : (u2 dt37 79 14 22) 79 2 = dt37 79 2 := rfl
              have w243 : (u2 dt37 79 14 22) 79 9 = dt37 79 9 := rfl
              have w244 : (u2 dt37 79 14 22) 79 10 = dt37 79 10 := rfl
              have w245 : (u2 dt37 79 14 22) 79 11 = dt37 79 11 := rfl
              have w246 : (u2 dt37 79 14 22) 79 12 = dt37 79 12 := rfl
              have w247 : (u2 dt37 79 14 22) 79 17 = dt37 79 17 := rfl
              have w248 : (u2 dt37 79 14 22) 79 20 = dt37 79 20 := rfl
              refine go_smpq PM159 (L' := [some (.inr (.inr (some 79))), none, none]) (st' := []) (w' := (SH, (u2 dt37 79 14 22))) rfl rfl (s_pf rfl rfl rfl rfl ⟨by decide, by decide⟩) ?_
              refine go_retq PM159 (k := 1) (r := none) (w1 := (SH, (u2 dt37 79 14 22))) rfl ?_
              exact ⟨(u2 dt37 79 14 22), rfl, hI236, hF237, ⟨rfl, ⟨by exact CUP_w q0 (by omega) (by omega) (pLt q5 (by omega)) (TE_l0 ⟨by omega, by omega⟩ (pLt q5 (by omega)) q1 (by omega) (.inl (by omega))) hw_h209 rfl (by decide), by first | exact True.intro | assumption | rfl | omega | trivial, by first | exact True.intro | assumption | rfl | omega | trivial, by first | exact True.intro | assumption | rfl | omega | trivial, by first | exact True.intro | assumption | rfl | omega | trivial, by first | exact True.intro | assumption | rfl | omega | trivial, by first | exact True.intro | assumption | rfl | omega | trivial, by first | exact True.intro | assumption | rfl | omega | trivial, by first | exact True.intro | assumption | rfl | omega | trivial⟩⟩⟩
            · skip
              have hw_h209 := h209
              rw [show dt37 85 = dt 85 from funext (hF39 85 (by decide)), show dt37 79 12 = dt 79 12 by first | assumption | omega] at hw_h209
              refine go_toq PM159 (k := 1) (pc' := 122) (L' := [some (.inr (.inr (some 79))), none, none]) (st' := [.inl 23, .inr (.inr (some 79))]) (w' := (SH, dt37)) rfl ?_
              have hI249 : InvC (u2 dt37 79 14 23) := InvC_u2 hI38 (lo := -2147483648) (hi := 2147483647) rfl rfl rfl (by decide) (by decide)
              have hF250 : Fr [79] dt (u2 dt37 79 14 23) := Fr_u2 hF39 (by decide)
              have w251 : (u2 dt37 79 14 23) 79 13 = dt37 79 13 := rfl
              have w252 : (u2 dt37 79 14 23) 79 14 = 23 := rfl
              have w253 : (u2 dt37 79 14 23) 79 15 = dt37 79 15 := rfl
              have w254 : (u2 dt37 79 14 23) 79 16 = dt37 79 16 := rfl
              have w255 : (u2 dt37 79 14 23) 79 2 = dt37 79 2 := rfl
              have w256 : (u2 dt37 79 14 23) 79 9 = dt37 79 9 := rfl
              have w257 : (u2 dt37 79 14 23) 79 10 = dt37 79 10 := rfl
              have w258 : (u2 dt37 79 14 23) 79 11 = dt37 79 11 := rfl
              have w259 : (u2 dt37 79 14 23) 79 12 = dt37 79 12 := rfl
              have w260 : (u2 dt37 79 14 23) 79 17 = dt37 79 17 := rfl
              have w261 : (u2 dt37 79 14 23) 79 20 = dt37 79 20 := rfl
              refine go_smpq PM159 (L' := [some (.inr (.inr (some 79))), none, none]) (st' := []) (w' := (SH, (u2 dt37 79 14 23))) rfl rfl (s_pf rfl rfl rfl rfl ⟨by decide, by decide⟩) ?_
              refine go_retq PM159 (k := 1) (r := none) (w1 := (SH, (u2 dt37 79 14 23))) rfl ?_
              exact ⟨(u2 dt37 79 14 23), rfl, hI249, hF250, ⟨rfl, ⟨by exact CUP_w q0 (by omega) (by omega) (pLt q5 (by omega)) (TE_l0 ⟨by omega, by omega⟩ (pLt q5 (by omega)) q1 (by omega) (.inl (by omega))) hw_h209 rfl (by decide), by first | exact True.intro | assumption | rfl | omega | trivial, by first | exact True.intro | assumption | rfl | omega | trivial, by first | exact True.intro | assumption | rfl | omega | trivial, by first | exact True.intro | assumption | rfl | omega | trivial, by first | exact True.intro | assumption | rfl | omega | trivial, by first | exact True.intro | assumption | rfl | omega | trivial, by first | exact True.intro | assumption | rfl | omega | trivial, by first | exact True.intro | assumption | rfl | omega | trivial⟩⟩⟩
            · skip
              have hw_h209 := h209
              rw [show dt37 85 = dt 85 from funext (hF39 85 (by decide)), show dt37 79 12 = dt 79 12 by first | assumption | omega] at hw_h209
              refine go_toq PM159 (k := 1) (pc' := 122) (L' := [some (.inr (.inr (some 79))), none, none]) (st' := [.inl 24, .inr (.inr (some 79))]) (w' := (SH, dt37)) rfl ?_
              have hI262 : InvC (u2 dt37 79 14 24) := InvC_u2 hI38 (lo := -2147483648) (hi := 2147483647) rfl rfl rfl (by decide) (by decide)
              have hF263 : Fr [79] dt (u2 dt37 79 14 24) := Fr_u2 hF39 (by decide)
              have w264 : (u2 dt37 79 14 24) 79 13 = dt37 79 13 := rfl
              have w265 : (u2 dt37 79 14 24) 79 14 = 24 := rfl
              have w266 : (u2 dt37 79 14 24) 79 15 = dt37 79 15 := rfl
              have w267 : (u2 dt37 79 14 24) 79 16 = dt37 79 16 := rfl
              have w268 : (u2 dt37 79 14 24) 79 2 = dt37 79 2 := rfl
              have w269 : (u2 dt37 79 14 24) 79 9 = dt37 79 9 := rfl
              have w270 : (u2 dt37 79 14 24) 79 10 = dt37 79 10 := rfl
              have w271 : (u2 dt37 79 14 24) 79 11 = dt37 79 11 := rfl
              have w272 : (u2 dt37 79 14 24) 79 12 = dt37 79 12 := rfl
              have w273 : (u2 dt37 79 14 24) 79 17 = dt37 79 17 := rfl
              have w274 : (u2 dt37 79 14 24) 79 20 = dt37 79 20 := rfl
              refine go_smpq PM159 (L' := [some (.inr (.inr (some 79))), none, none]) (st' := []) (w' := (SH, (u2 dt37 79 14 24))) rfl rfl (s_pf rfl rfl rfl rfl ⟨by decide, by decide⟩) ?_
              refine go_retq PM159 (k := 1) (r := none) (w1 := (SH, (u2 dt37 79 14 24))) rfl ?_
              exact ⟨(u2 dt37 79 14 24), rfl, hI262, hF263, ⟨rfl, ⟨by exact CUP_w q0 (by omega) (by omega) (pLt q5 (by omega)) (TE_l0 ⟨by omega, by omega⟩ (pLt q5 (by omega)) q1 (by omega) (.inl (by omega))) hw_h209 rfl (by decide), by first | exact True.intro | assumption | rfl | omega | trivial, by first | exact True.intro | assumption | rfl | omega | trivial, by first | exact True.intro | assumption | rfl | omega | trivial, by first | exact True.intro | assumption | rfl | omega | trivial, by first | exact True.intro | assumption | rfl | omega | trivial, by first | exact True.intro | assumption | rfl | omega | trivial, by first | exact True.intro | assumption | rfl | omega | trivial, by first | exact True.intro | assumption | rfl | omega | trivial⟩⟩⟩
            · skip
              have hw_h209 := h209
              rw [show dt37 85 = dt 85 from funext (hF39 85 (by decide)), show dt37 79 12 = dt 79 12 by first | assumption | omega] at hw_h209
              refine go_toq PM159 (k := 1) (pc' := 122) (L' := [some (.inr (.inr (some 79))), none, none]) (st' := [.inl 25, .inr (.inr (some 79))]) (w' := (SH, dt37)) rfl ?_
              have hI275 : InvC (u2 dt37 79 14 25) := InvC_u2 hI38 (lo := -2147483648) (hi := 2147483647) rfl rfl rfl (by decide) (by decide)
              have hF276 : Fr [79] dt (u2 dt37 79 14 25) := Fr_u2 hF39 (by decide)
              have w277 : (u2 dt37 79 14 25) 79 13 = dt37 79 13 := rfl
              have w278 : (u2 dt37 79 14 25) 79 14 = 25 := rfl
              have w279 : (u2 dt37 79 14 25) 79 15 = dt37 79 15 := rfl
              have w280 : (u2 dt37 79 14 25) 79 16 = dt37 79 16 := rfl
              have w281 : (u2 dt37 79 14 25) 79 2 = dt37 79 2 := rfl
              have w282 : (u2 dt37 79 14 25) 79 9 = dt37 79 9 := rfl
              have w283 : (u2 dt37 79 14 25) 79 10 = dt37 79 10 := rfl
              have w284 : (u2 dt37 79 14 25) 79 11 = dt37 79 11 := rfl
              have w285 : (u2 dt37 79 14 25) 79 12 = dt37 79 12 := rfl
              have w286 : (u2 dt37 79 14 25) 79 17 = dt37 79 17 := rfl
              have w287 : (u2 dt37 79 14 25) 79 20 = dt37 79 20 := rfl
              refine go_smpq PM159 (L' := [some (.inr (.inr (some 79))), none, none]) (st' := []) (w' := (SH, (u2 dt37 79 14 25))) rfl rfl (s_pf rfl rfl rfl rfl ⟨by decide, by decide⟩) ?_
              refine go_retq PM159 (k := 1) (r := none) (w1 := (SH, (u2 dt37 79 14 25))) rfl ?_
              exact ⟨(u2 dt37 79 14 25), rfl, hI275, hF276, ⟨rfl, ⟨by exact CUP_w q0 (by omega) (by omega) (pLt q5 (by omega)) (TE_l0 ⟨by omega, by omega⟩ (pLt q5 (by omega)) q1 (by omega) (.inl (by omega))) hw_h209 rfl (by decide), by first | exact True.intro | assumption | rfl | omega | trivial, by first | exact True.intro | assumption | rfl | omega | trivial, by first | exact True.intro | assumption | rfl | omega | trivial, by first | exact True.intro | assumption | rfl | omega | trivial, by first | exact True.intro | assumption | rfl | omega | trivial, by first | exact True.intro | assumption | rfl | omega | trivial, by first | exact True.intro | assumption | rfl | omega | trivial, by first | exact True.intro | assumption | rfl | omega | trivial⟩⟩⟩
            · skip
              have hw_h209 := h209
              rw [show dt37 85 = dt 85 from funext (hF39 85 (by decide)), show dt37 79 12 = dt 79 12 by first | assumption | omega] at hw_h209
              refine go_toq PM159 (k := 1) (pc' := 122) (L' := [some (.inr (.inr (some 79))), none, none]) (st' := [.inl 26, .inr (.inr (some 79))]) (w' := (SH, dt37)) rfl ?_
              have hI288 : InvC (u2 dt37 79 14 26) := InvC_u2 hI38 (lo := -2147483648) (hi := 2147483647) rfl rfl rfl (by decide) (by decide)
              have hF289 : Fr [79] dt (u2 dt37 79 14 26) := Fr_u2 hF39 (by decide)
              have w290 : (u2 dt37 79 14 26) 79 13 = dt37 79 13 := rfl
              have w291 : (u2 dt37 79 14 26) 79 14 = 26 := rfl
              have w292 : (u2 dt37 79 14 26) 79 15 = dt37 79 15 := rfl
              have w293 : (u2 dt37 79 14 26) 79 16 = dt37 79 16 := rfl
              have w294 : (u2 dt37 79 14 26) 79 2 = dt37 79 2 := rfl
              have w295 : (u2 dt37 79 14 26) 79 9 = dt37 79 9 := rfl
              have w296 : (u2 dt37 79 14 26) 79 10 = dt37 79 10 := rfl
              have w297 : (u2 dt37 79 14 26) 79 11 = dt37 79 11 := rfl
              have w298 : (u2 dt37 79 14 26) 79 12 = dt37 79 12 := rfl
              have w299 : (u2 dt37 79 14 26) 79 17 = dt37 79 17 := rfl
              have w300 : (u2 dt37 79 14 26) 79 20 = dt37 79 20 := rfl
              refine go_smpq PM159 (L' := [some (.inr (.inr (some 79))), none, none]) (st' := []) (w' := (SH, (u2 dt37 79 14 26))) rfl rfl (s_pf rfl rfl rfl rfl ⟨by decide, by decide⟩) ?_
              refine go_retq PM159 (k := 1) (r := none) (w1 := (SH, (u2 dt37 79 14 26))) rfl ?_
              exact ⟨(u2 dt37 79 14 26), rfl, hI288, hF289, ⟨rfl, ⟨by exact CUP_w q0 (by omega) (by omega) (pLt q5 (by omega)) (TE_l0 ⟨by omega, by omega⟩ (pLt q5 (by omega)) q1 (by omega) (.inl (by omega))) hw_h209 rfl (by decide), by first | exact True.intro | assumption | rfl | omega | trivial, by first | exact True.intro | assumption | rfl | omega | trivial, by first | exact True.intro | assumption | rfl | omega | trivial, by first | exact True.intro | assumption | rfl | omega | trivial, by first | exact True.intro | assumption | rfl | omega | trivial, by first | exact True.intro | assumption | rfl | omega | trivial, by first | exact True.intro | assumption | rfl | omega | trivial, by first | exact True.intro | assumption | rfl | omega | trivial⟩⟩⟩
            · skip
              have hw_h209 := h209
              rw [show dt37 85 = dt 85 from funext (hF39 85 (by decide)), show dt37 79 12 = dt 79 12 by first | assumption | omega] at hw_h209
              refine go_toq PM159 (k := 1) (pc' := 122) (L' := [some (.inr (.inr (some 79))), none, none]) (st' := [.inl 27, .inr (.inr (some 79))]) (w' := (SH, dt37)) rfl ?_
              have hI301 : InvC (u2 dt37 79 14 27) := InvC_u2 hI38 (lo := -2147483648) (hi := 2147483647) rfl rfl rfl (by decide) (by decide)
              have hF302 : Fr [79] dt (u2 dt37 79 14 27) := Fr_u2 hF39 (by decide)
              have w303 : (u2 dt37 79 14 27) 79 13 = dt37 79 13 := rfl
              have w304 : (u2 dt37 79 14 27) 79 14 = 27 := rfl
              have w305 : (u2 dt37 79 14 27) 79 15 = dt37 79 15 := rfl
              have w306 : (u2 dt37 79 14 27) 79 16 = dt37 79 16 := rfl
              have w307 : (u2 dt37 79 14 27) 79 2 = dt37 79 2 := rfl
              have w308 : (u2 dt37 79 14 27) 79 9 = dt37 79 9 := rfl
              have w309 : (u2 dt37 79 14 27) 79 10 = dt37 79 10 := rfl
              have w310 : (u2 dt37 79 14 27) 79 11 = dt37 79 11 := rfl
              have w311 : (u2 dt37 79 14 27) 79 12 = dt37 79 12 := rfl
              have w312 : (u2 dt37 79 14 27) 79 17 = dt37 79 17 := rfl
              have w313 : (u2 dt37 79 14 27) 79 20 = dt37 79 20 := rfl
              refine go_smpq PM159 (L' := [some (.inr (.inr (some 79))), none, none]) (st' := []) (w' := (SH, (u2 dt37 79 14 27))) rfl rfl (s_pf rfl rfl rfl rfl ⟨by decide, by decide⟩) ?_
              refine go_retq PM159 (k := 1) (r := none) (w1 := (SH, (u2 dt37 79 14 27))) rfl ?_
              exact ⟨(u2 dt37 79 14 27), rfl, hI301, hF302, ⟨rfl, ⟨by exact CUP_w q0 (by omega) (by omega) (pLt q5 (by omega)) (TE_l0 ⟨by omega, by omega⟩ (pLt q5 (by omega)) q1 (by omega) (.inl (by omega))) hw_h209 rfl (by decide), by first | exact True.intro | assumption | rfl | omega | trivial, by first | exact True.intro | assumption | rfl | omega | trivial, by first | exact True.intro | assumption | rfl | omega | trivial, by first | exact True.intro | assumption | rfl | omega | trivial, by first | exact True.intro | assumption | rfl | omega | trivial, by first | exact True.intro | assumption | rfl | omega | trivial, by first | exact True.intro | assumption | rfl | omega | trivial, by first | exact True.intro | assumption | rfl | omega | trivial⟩⟩⟩
            · skip
              have hw_h209 := h209
              rw [show dt37 85 = dt 85 from funext (hF39 85 (by decide)), show dt37 79 12 = dt 79 12 by first | assumption | omega] at hw_h209
              refine go_toq PM159 (k := 1) (pc' := 122) (L' := [some (.inr (.inr (some 79))), none, none]) (st' := [.inl 28, .inr (.inr (some 79))]) (w' := (SH, dt37)) rfl ?_
              have hI314 : InvC (u2 dt37 79 14 28) := InvC_u2 hI38 (lo := -2147483648) (hi := 2147483647) rfl rfl rfl (by decide) (by decide)
              have hF315 : Fr [79] dt (u2 dt37 79 14 28) := Fr_u2 hF39 (by decide)
              have w316 : (u2 dt37 79 14 28) 79 13 = dt37 79 13 := rfl
              have w317 : (u2 dt37 79 14 28) 79 14 = 28 := rfl
              have w318 : (u2 dt37 79 14 28) 79 15 = dt37 79 15 := rfl
              have w319 : (u2 dt37 79 14 28) 79 16 = dt37 79 16 := rfl
              have w320 : (u2 dt37 79 14 28) 79 2 = dt37 79 2 := rfl
              have w321 : (u2 dt37 79 14 28) 79 9 = dt37 79 9 := rfl
              have w322 : (u2 dt37 79 14 28) 79 10 = dt37 79 10 := rfl
              have w323 : (u2 dt37 79 14 28) 79 11 = dt37 79 11 := rfl
              have w324 : (u2 dt37 79 14 28) 79 12 = dt37 79 12 := rfl
              have w325 : (u2 dt37 79 14 28) 79 17 = dt37 79 17 := rfl
              have w326 : (u2 dt37 79 14 28) 79 20 = dt37 79 20 := rfl
              refine go_smpq PM159 (L' := [some (.inr (.inr (some 79))), none, none]) (st' := []) (w' := (SH, (u2 dt37 79 14 28))) rfl rfl (s_pf rfl rfl rfl rfl ⟨by decide, by decide⟩) ?_
              refine go_retq PM159 (k := 1) (r := none) (w1 := (SH, (u2 dt37 79 14 28))) rfl ?_
              exact ⟨(u2 dt37 79 14 28), rfl, hI314, hF315, ⟨rfl, ⟨by exact CUP_w q0 (by omega) (by omega) (pLt q5 (by omega)) (TE_l0 ⟨by omega, by omega⟩ (pLt q5 (by omega)) q1 (by omega) (.inl (by omega))) hw_h209 rfl (by decide), by first | exact True.intro | assumption | rfl | omega | trivial, by first | exact True.intro | assumption | rfl | omega | trivial, by first | exact True.intro | assumption | rfl | omega | trivial, by first | exact True.intro | assumption | rfl | omega | trivial, by first | exact True.intro | assumption | rfl | omega | trivial, by first | exact True.intro | assumption | rfl | omega | trivial, by first | exact True.intro | assumption | rfl | omega | trivial, by first | exact True.intro | assumption | rfl | omega | trivial⟩⟩⟩
            · skip
              have hw_h209 := h209
              rw [show dt37 85 = dt 85 from funext (hF39 85 (by decide)), show dt37 79 12 = dt 79 12 by first | assumption | omega] at hw_h209
              refine go_toq PM159 (k := 1) (pc' := 122) (L' := [some (.inr (.inr (some 79))), none, none]) (st' := [.inl 1, .inr (.inr (some 79))]) (w' := (SH, dt37)) rfl ?_
              have hI327 : InvC (u2 dt37 79 14 1) := InvC_u2 hI38 (lo := -2147483648) (hi := 2147483647) rfl rfl rfl (by decide) (by decide)
              have hF328 : Fr [79] dt (u2 dt37 79 14 1) := Fr_u2 hF39 (by decide)
              have w329 : (u2 dt37 79 14 1) 79 13 = dt37 79 13 := rfl
              have w330 : (u2 dt37 79 14 1) 79 14 = 1 := rfl
              have w331 : (u2 dt37 79 14 1) 79 15 = dt37 79 15 := rfl
              have w332 : (u2 dt37 79 14 1) 79 16 = dt37 79 16 := rfl
              have w333 : (u2 dt37 79 14 1) 79 2 = dt37 79 2 := rfl
              have w334 : (u2 dt37 79 14 1) 79 9 = dt37 79 9 := rfl
              have w335 : (u2 dt37 79 14 1) 79 10 = dt37 79 10 := rfl
              have w336 : (u2 dt37 79 14 1) 79 11 = dt37 79 11 := rfl
              have w337 : (u2 dt37 79 14 1) 79 12 = dt37 79 12 := rfl
              have w338 : (u2 dt37 79 14 1) 79 17 = dt37 79 17 := rfl
              have w339 : (u2 dt37 79 14 1) 79 20 = dt37 79 20 := rfl
              refine go_smpq PM159 (L' := [some (.inr (.inr (some 79))), none, none]) (st' := []) (w' := (SH, (u2 dt37 79 14 1))) rfl rfl (s_pf rfl rfl rfl rfl ⟨by decide, by decide⟩) ?_
              refine go_retq PM159 (k := 1) (r := none) (w1 := (SH, (u2 dt37 79 14 1))) rfl ?_
              exact ⟨(u2 dt37 79 14 1), rfl, hI327, hF328, ⟨rfl, ⟨by exact CUP_w q0 (by omega) (by omega) (pLt q5 (by omega)) (TE_l0 ⟨by omega, by omega⟩ (pLt q5 (by omega)) q1 (by omega) (.inl (by omega))) hw_h209 rfl (by decide), by first | exact True.intro | assumption | rfl | omega | trivial, by first | exact True.intro | assumption | rfl | omega | trivial, by first | exact True.intro | assumption | rfl | omega | trivial, by first | exact True.intro | assumption | rfl | omega | trivial, by first | exact True.intro | assumption | rfl | omega | trivial, by first | exact True.intro | assumption | rfl | omega | trivial, by first | exact True.intro | assumption | rfl | omega | trivial, by first | exact True.intro | assumption | rfl | omega | trivial⟩⟩⟩
        · skip
          refine go_toq PM159 (k := 5) (pc' := 97) (L' := [some (.inr (.inr (some 79))), none, none]) (st' := [.inl ((dt37 79 13) + 1), .inr (.inr (some 79))]) (w' := (SH, dt37)) rfl ?_
          have hI340 : InvC (u2 dt37 79 13 ((dt37 79 13) + 1)) := InvC_u2 hI38 (lo := 0) (hi := 501) rfl rfl rfl (by omega) (by omega)
          have hF341 : Fr [79] dt (u2 dt37 79 13 ((dt37 79 13) + 1)) := Fr_u2 hF39 (by decide)
          have w342 : (u2 dt37 79 13 ((dt37 79 13) + 1)) 79 13 = (dt37 79 13) + 1 := rfl
          have w343 : (u2 dt37 79 13 ((dt37 79 13) + 1)) 79 14 = dt37 79 14 := rfl
          have w344 : (u2 dt37 79 13 ((dt37 79 13) + 1)) 79 15 = dt37 79 15 := rfl
          have w345 : (u2 dt37 79 13 ((dt37 79 13) + 1)) 79 16 = dt37 79 16 := rfl
          have w346 : (u2 dt37 79 13 ((dt37 79 13) + 1)) 79 2 = dt37 79 2 := rfl
          have w347 : (u2 dt37 79 13 ((dt37 79 13) + 1)) 79 9 = dt37 79 9 := rfl
          have w348 : (u2 dt37 79 13 ((dt37 79 13) + 1)) 79 10 = dt37 79 10 := rfl
          have w349 : (u2 dt37 79 13 ((dt37 79 13) + 1)) 79 11 = dt37 79 11 := rfl
          have w350 : (u2 dt37 79 13 ((dt37 79 13) + 1)) 79 12 = dt37 79 12 := rfl
          have w351 : (u2 dt37 79 13 ((dt37 79 13) + 1)) 79 17 = dt37 79 17 := rfl
          have w352 : (u2 dt37 79 13 ((dt37 79 13) + 1)) 79 20 = dt37 79 20 := rfl
          refine go_smpq PM159 (L' := [some (.inr (.inr (some 79))), none, none]) (st' := []) (w' := (SH, (u2 dt37 79 13 ((dt37 79 13) + 1)))) rfl rfl (s_pf rfl rfl rfl rfl (by first | exact bndp r55 (by decide) (by decide) | exact ⟨by omega, by omega⟩)) ?_
          refine go_toq PM159 (k := 1) (pc' := 76) (L' := [some (.inr (.inr (some 79))), none, none]) (st' := []) (w' := (SH, (u2 dt37 79 13 ((dt37 79 13) + 1)))) rfl ?_
          exact GO.le (ih_loop54 (u2 dt37 79 13 ((dt37 79 13) + 1)) hI340 hF341 (by first | omega | rfl | (rw [show (dt 79 15).toNat = (dt 79 13).toNat by first | assumption | omega]; exact h_p4) | exact h_p3 | exact q0 | exact q5 | exact q5 | (rw [show (dt 79 13).toNat = (dt 79 15).toNat by first | assumption | omega]) | exact RN_st q1 (by omega) (by omega) (pLt hI (by omega))) (by first | omega | rfl | (rw [show (dt 79 15).toNat = (dt 79 13).toNat by first | assumption | omega]; exact h_p4) | exact h_p3 | exact q0 | exact q5 | exact q5 | (rw [show (dt 79 13).toNat = (dt 79 15).toNat by first | assumption | omega]) | exact RN_st q1 (by omega) (by omega) (pLt hI (by omega))) (by first | omega | rfl | (rw [show (dt 79 15).toNat = (dt 79 13).toNat by first | assumption | omega]; exact h_p4) | exact h_p3 | exact q0 | exact q5 | exact q5 | (rw [show (dt 79 13).toNat = (dt 79 15).toNat by first | assumption | omega]) | exact RN_st q1 (by omega) (by omega) (pLt hI (by omega))) (by first | omega | rfl | (rw [show (dt 79 15).toNat = (dt 79 13).toNat by first | assumption | omega]; exact h_p4) | exact h_p3 | exact q0 | exact q5 | exact q5 | (rw [show (dt 79 13).toNat = (dt 79 15).toNat by first | assumption | omega]) | exact RN_st q1 (by omega) (by omega) (pLt hI (by omega))) (by first | omega | rfl | (rw [show (dt 79 15).toNat = (dt 79 13).toNat by first | assumption | omega]; exact h_p4) | exact h_p3 | exact q0 | exact q5 | exact q5 | (rw [show (dt 79 13).toNat = (dt 79 15).toNat by first | assumption | omega]) | exact RN_st q1 (by omega) (by omega) (pLt hI (by omega))) (by first | omega | rfl | (rw [show (dt 79 15).toNat = (dt 79 13).toNat by first | assumption | omega]; exact h_p4) | exact h_p3 | exact q0 | exact q5 | exact q5 | (rw [show (dt 79 13).toNat = (dt 79 15).toNat by first | assumption | omega]) | exact RN_st q1 (by omega) (by omega) (pLt hI (by omega))) (by first | omega | rfl | (rw [show (dt 79 15).toNat = (dt 79 13).toNat by first | assumption | omega]; exact h_p4) | exact h_p3 | exact q0 | exact q5 | exact q5 | (rw [show (dt 79 13).toNat = (dt 79 15).toNat by first | assumption | omega]) | exact RN_st q1 (by omega) (by omega) (pLt hI (by omega))) (by first | omega | rfl | (rw [show (dt 79 15).toNat = (dt 79 13).toNat by first | assumption | omega]; exact h_p4) | exact h_p3 | exact q0 | exact q5 | exact q5 | (rw [show (dt 79 13).toNat = (dt 79 15).toNat by first | assumption | omega]) | exact RN_st q1 (by omega) (by omega) (pLt hI (by omega))) (by first | omega | rfl | (rw [show (dt 79 15).toNat = (dt 79 13).toNat by first | assumption | omega]; exact h_p4) | exact h_p3 | exact q0 | exact q5 | exact q5 | (rw [show (dt 79 13).toNat = (dt 79 15).toNat by first | assumption | omega]) | exact RN_st q1 (by omega) (by omega) (pLt hI (by omega))) (by first | omega | rfl | (rw [show (dt 79 15).toNat = (dt 79 13).toNat by first | assumption | omega]; exact h_p4) | exact h_p3 | exact q0 | exact q5 | exact q5 | (rw [show (dt 79 13).toNat = (dt 79 15).toNat by first | assumption | omega]) | exact RN_st q1 (by omega) (by omega) (pLt hI (by omega))) (by first | omega | rfl | (rw [show (dt 79 15).toNat = (dt 79 13).toNat by first | assumption | omega]; exact h_p4) | exact h_p3 | exact q0 | exact q5 | exact q5 | (rw [show (dt 79 13).toNat = (dt 79 15).toNat by first | assumption | omega]) | exact RN_st q1 (by omega) (by omega) (pLt hI (by omega))) (by first | omega | rfl | (rw [show (dt 79 15).toNat = (dt 79 13).toNat by first | assumption | omega]; exact h_p4) | exact h_p3 | exact q0 | exact q5 | exact q5 | (rw [show (dt 79 13).toNat = (dt 79 15).toNat by first | assumption | omega]) | exact RN_st q1 (by omega) (by omega) (pLt hI (by omega))) (by first | omega | rfl | (rw [show (dt 79 15).toNat = (dt 79 13).toNat by first | assumption | omega]; exact h_p4) | exact h_p3 | exact q0 | exact q5 | exact q5 | (rw [show (dt 79 13).toNat = (dt 79 15).toNat by first | assumption | omega]) | exact RN_st q1 (by omega) (by omega) (pLt hI (by omega))) (by first | omega | rfl | (rw [show (dt 79 15).toNat = (dt 79 13).toNat by first | assumption | omega]; exact h_p4) | exact h_p3 | exact q0 | exact q5 | exact q5 | (rw [show (dt 79 13).toNat = (dt 79 15).toNat by first | assumption | omega]) | exact RN_st q1 (by omega) (by omega) (pLt hI (by omega))) (by omega)) ⟨.inl rfl, .inl rfl, .inl rfl, trivial⟩
  exact GO.le (loop54 _ dt hI hF (by first | omega | rfl | (rw [show (dt 79 15).toNat = (dt 79 13).toNat by first | assumption | omega]; exact h_p4) | exact h_p3 | exact q0 | exact hI | exact q5 | (rw [show (dt 79 13).toNat = (dt 79 15).toNat by first | assumption | omega]) | exact RN_st q1 (by omega) (by omega) (pLt hI (by omega))) (by first | omega | rfl | (rw [show (dt 79 15).toNat = (dt 79 13).toNat by first | assumption | omega]; exact h_p4) | exact h_p3 | exact q0 | exact hI | exact q5 | (rw [show (dt 79 13).toNat = (dt 79 15).toNat by first | assumption | omega]) | exact RN_st q1 (by omega) (by omega) (pLt hI (by omega))) (by first | omega | rfl | (rw [show (dt 79 15).toNat = (dt 79 13).toNat by first | assumption | omega]; exact h_p4) | exact h_p3 | exact q0 | exact hI | exact q5 | (rw [show (dt 79 13).toNat = (dt 79 15).toNat by first | assumption | omega]) | exact RN_st q1 (by omega) (by omega) (pLt hI (by omega))) (by first | omega | rfl | (rw [show (dt 79 15).toNat = (dt 79 13).toNat by first | assumption | omega]; exact h_p4) | exact h_p3 | exact q0 | exact hI | exact q5 | (rw [show (dt 79 13).toNat = (dt 79 15).toNat by first | assumption | omega]) | exact RN_st q1 (by omega) (by omega) (pLt hI (by omega))) (by first | omega | rfl | (rw [show (dt 79 15).toNat = (dt 79 13).toNat by first | assumption | omega]; exact h_p4) | exact h_p3 | exact q0 | exact hI | exact q5 | (rw [show (dt 79 13).toNat = (dt 79 15).toNat by first | assumption | omega]) | exact RN_st q1 (by omega) (by omega) (pLt hI (by omega))) (by first | omega | rfl | (rw [show (dt 79 15).toNat = (dt 79 13).toNat by first | assumption | omega]; exact h_p4) | exact h_p3 | exact q0 | exact hI | exact q5 | (rw [show (dt 79 13).toNat = (dt 79 15).toNat by first | assumption | omega]) | exact RN_st q1 (by omega) (by omega) (pLt hI (by omega))) (by first | omega | rfl | (rw [show (dt 79 15).toNat = (dt 79 13).toNat by first | assumption | omega]; exact h_p4) | exact h_p3 | exact q0 | exact hI | exact q5 | (rw [show (dt 79 13).toNat = (dt 79 15).toNat by first | assumption | omega]) | exact RN_st q1 (by omega) (by omega) (pLt hI (by omega))) (by first | omega | rfl | (rw [show (dt 79 15).toNat = (dt 79 13).toNat by first | assumption | omega]; exact h_p4) | exact h_p3 | exact q0 | exact hI | exact q5 | (rw [show (dt 79 13).toNat = (dt 79 15).toNat by first | assumption | omega]) | exact RN_st q1 (by omega) (by omega) (pLt hI (by omega))) (by first | omega | rfl | (rw [show (dt 79 15).toNat = (dt 79 13).toNat by first | assumption | omega]; exact h_p4) | exact h_p3 | exact q0 | exact hI | exact q5 | (rw [show (dt 79 13).toNat = (dt 79 15).toNat by first | assumption | omega]) | exact RN_st q1 (by omega) (by omega) (pLt hI (by omega))) (by first | omega | rfl | (rw [show (dt 79 15).toNat = (dt 79 13).toNat by first | assumption | omega]; exact h_p4) | exact h_p3 | exact q0 | exact hI | exact q5 | (rw [show (dt 79 13).toNat = (dt 79 15).toNat by first | assumption | omega]) | exact RN_st q1 (by omega) (by omega) (pLt hI (by omega))) (by first | omega | rfl | (rw [show (dt 79 15).toNat = (dt 79 13).toNat by first | assumption | omega]; exact h_p4) | exact h_p3 | exact q0 | exact hI | exact q5 | (rw [show (dt 79 13).toNat = (dt 79 15).toNat by first | assumption | omega]) | exact RN_st q1 (by omega) (by omega) (pLt hI (by omega))) (by first | omega | rfl | (rw [show (dt 79 15).toNat = (dt 79 13).toNat by first | assumption | omega]; exact h_p4) | exact h_p3 | exact q0 | exact hI | exact q5 | (rw [show (dt 79 13).toNat = (dt 79 15).toNat by first | assumption | omega]) | exact RN_st q1 (by omega) (by omega) (pLt hI (by omega))) (by first | omega | rfl | (rw [show (dt 79 15).toNat = (dt 79 13).toNat by first | assumption | omega]; exact h_p4) | exact h_p3 | exact q0 | exact hI | exact q5 | (rw [show (dt 79 13).toNat = (dt 79 15).toNat by first | assumption | omega]) | exact RN_st q1 (by omega) (by omega) (pLt hI (by omega))) (by first | omega | rfl | (rw [show (dt 79 15).toNat = (dt 79 13).toNat by first | assumption | omega]; exact h_p4) | exact h_p3 | exact q0 | exact hI | exact q5 | (rw [show (dt 79 13).toNat = (dt 79 15).toNat by first | assumption | omega]) | exact RN_st q1 (by omega) (by omega) (pLt hI (by omega))) (Nat.lt_succ_self _)) ⟨.inl rfl, .inr ⟨rfl, trivial⟩, .inl rfl, trivial⟩
set_option maxHeartbeats 8000000 in
set_option maxRecDepth 20000 in
theorem sp_X6_next0_d0 (L : Nat) (xs : Nat → Int32) (sio : Option Nat) (d : Nat) (dt : Nat → Nat → Int) (hI : InvC dt)  (p1 : Int) (h_p1 : 0 ≤ p1 ∧ p1 ≤ 255) (h_p0 : dt 79 13 = dt 79 15) (h_p1 : dt 79 15 < dt 79 12) (h_p2 : dt 79 9 = 0) (h_p3 : p1 = (mB (dt 85) (dt 79 12)) (dt 79 15).toNat) (h_p4 : RN pB (mB (dt 85) (dt 79 12)) (dt 79 12).toNat (dt 79 13).toNat = (dt 79 13).toNat) (h_p5 : 48 ≤ p1 ∧ p1 ≤ 57) (h_p6 : dt 79 16 = 0) : GO (am_XX L xs sio) (d + 6) 159 140 [some (.inr (.inr (some 79))), some (.inl p1), none] [] (SH, dt) (fun r w2 => ∃ dt2 : Nat → Nat → Int, w2 = (SH, dt2) ∧ InvC dt2 ∧ Fr [79] dt dt2 ∧ ((r = none ∧ (CUP 0 (mB (dt 85) (dt 79 12)) (dt 79 12).toNat dt2 (RN pB (mB (dt 85) (dt 79 12)) (dt 79 12).toNat (dt 79 13).toNat)) ∧ (dt 79 13 ≤ dt2 79 15) ∧ (dt2 79 2 = dt 79 2) ∧ (dt2 79 9 = dt 79 9) ∧ (dt2 79 10 = dt 79 10) ∧ (dt2 79 11 = dt 79 11) ∧ (dt2 79 12 = dt 79 12) ∧ (dt2 79 17 = dt 79 17) ∧ (dt2 79 20 = dt 79 20)))) := by
  have hF : Fr [79] dt dt := Fr_refl
  have r1 : 0 ≤ dt 79 13 ∧ dt 79 13 ≤ 501 := InvC_get hI 79 13 rfl rfl
  have r2 : 0 ≤ dt 79 12 ∧ dt 79 12 ≤ 500 := InvC_get hI 79 12 rfl rfl
  have r3 : 0 ≤ dt 79 15 ∧ dt 79 15 ≤ 500 := InvC_get hI 79 15 rfl rfl
  have r4 : 0 ≤ dt 79 16 ∧ dt 79 16 ≤ 9999 := InvC_get hI 79 16 rfl rfl
  have loop122 : ∀ (k_ : Nat) (dt98 : Nat → Nat → Int) (hI99 : InvC dt98) (hF100 : Fr [79] dt dt98) (i101 : dt98 79 15 ≤ dt98 79 13) (i102 : dt 79 13 ≤ dt98 79 15) (i103 : dt98 79 13 ≤ dt 79 12) (i104 : RN pB (mB (dt 85) (dt 79 12)) (dt 79 12).toNat (dt 79 13).toNat = (dt98 79 15).toNat) (i105 : RN pD (mB (dt 85) (dt 79 12)) (dt 79 12).toNat (dt98 79 15).toNat = RN pD (mB (dt 85) (dt 79 12)) (dt 79 12).toNat (dt98 79 13).toNat) (i106 : dt98 79 15 < dt 79 12) (i107 : dt98 79 13 ≤ dt98 79 15 + 4 → dt98 79 16 = nv (mB (dt 85) (dt 79 12)) (dt98 79 15).toNat (dt98 79 13 - dt98 79 15).toNat) (i108 : 0 ≤ dt98 79 16) (i109 : dt98 79 13 = dt98 79 15 → dt98 79 16 = 0) (i110 : dt98 79 13 = dt98 79 15 + 1 → dt98 79 16 ≤ 9) (i111 : dt98 79 13 = dt98 79 15 + 2 → dt98 79 16 ≤ 99) (i112 : dt98 79 13 = dt98 79 15 + 3 → dt98 79 16 ≤ 999) (i113 : dt98 79 16 ≤ 9999) (i114 : p1 = (mB (dt 85) (dt 79 12)) (dt98 79 15).toNat) (i115 : dt98 79 2 = dt 79 2) (i116 : dt98 79 9 = dt 79 9) (i117 : dt98 79 10 = dt 79 10) (i118 : dt98 79 11 = dt 79 11) (i119 : dt98 79 12 = dt 79 12) (i120 : dt98 79 17 = dt 79 17) (i121 : dt98 79 20 = dt 79 20), (502 - dt98 79 13).toNat < k_ → GO (am_XX L xs sio) (d + 6) 159 140 [some (.inr (.inr (some 79))), none, none] [] (SH, dt98) (fun r w2 => ∃ dt2 : Nat → Nat → Int, w2 = (SH, dt2) ∧ InvC dt2 ∧ Fr [79] dt dt2 ∧ ((r = none ∧ (CUP 0 (mB (dt 85) (dt 79 12)) (dt 79 12).toNat dt2 (RN pB (mB (dt 85) (dt 79 12)) (dt 79 12).toNat (dt 79 13).toNat)) ∧ (dt 79 13 ≤ dt2 79 15) ∧ (dt2 79 2 = dt 79 2) ∧ (dt2 79 9 = dt 79 9) ∧ (dt2 79 10 = dt 79 10) ∧ (dt2 79 11 = dt 79 11) ∧ (dt2 79 12 = dt 79 12) ∧ (dt2 79 17 = dt 79 17) ∧ (dt2 79 20 = dt 79 20)))) := by
    intro k_
    induction k_ with
    | zero => intro dt98 hI99 hF100 i101 i102 i103 i104 i105 i106 i107 i108 i109 i110 i111 i112 i113 i114 i115 i116 i117 i118 i119 i120 i121 hm; exact absurd hm (Nat.not_lt_zero _)
    | succ k_ ih_loop122 =>
      intro dt98 hI99 hF100 i101 i102 i103 i104 i105 i106 i107 i108 i109 i110 i111 i112 i113 i114 i115 i116 i117 i118 i119 i120 i121 hm
      have q0 := i104
      have q2 := i105
      have q3 := i107
      have q5 := i114
      have r123 : 0 ≤ dt98 79 13 ∧ dt98 79 13 ≤ 501 := InvC_get hI99 79 13 rfl rfl
      refine go_toq PM159 (k := 3) (pc' := 145) (L' := [some (.inr (.inr (some 79))), none, none]) (st' := [.inl (dt98 79 13), .inr (.inr (some 79))]) (w' := (SH, dt98)) rfl ?_
      refine go_callq PM159 PM153 (Q' := _) rfl rfl rfl rfl (sp_X6_see_f L xs sio (d + 5) dt98 hI99  (dt98 79 13) (by first | exact bnd r123 (by decide) (by decide) | exact ⟨by omega, by omega⟩) ) ?_
      rintro _ _ ⟨rfl, h124⟩
      refine ⟨rfl, ?_⟩
      rcases h124 with ⟨v_h124, rfl, h124r, h124⟩ | ⟨rfl, h124⟩
      · skip
        obtain ⟨h124_0, h124_1⟩ := h124
        have hb_h124 : v_h124 = (mB (dt 85) (dt 79 12)) (dt98 79 13).toNat := by have z := h124_1; rw [show dt98 85 = dt 85 from funext (hF100 85 (by decide)), show dt98 79 12 = dt 79 12 by first | assumption | omega] at z; exact z
        refine go_callq PM159 PM155 (Q' := _) rfl rfl rfl rfl (sp_X6_isDigit L xs sio (d + 4) dt98 hI99  v_h124 (by first | exact bnd h124r (by decide) (by decide) | exact ⟨by omega, by omega⟩) ) ?_
        rintro _ _ ⟨rfl, h125⟩
        refine ⟨rfl, ?_⟩
        rcases h125 with ⟨v_h125, rfl, h125r, h125⟩
        refine go_ifq PM159 (k := 0) (p1 := 203) (p2 := 154) (L' := [some (.inr (.inr (some 79))), none, none]) (st' := []) (w' := (SH, dt98)) rfl (z_eq (a := v_h125) (by first | exact bnd h125r (by decide) (by decide) | exact ⟨by omega, by omega⟩)) (fun c126 => ?_) (fun c126 => ?_)
        · skip
          have r127 : 0 ≤ dt98 79 15 ∧ dt98 79 15 ≤ 500 := InvC_get hI99 79 15 rfl rfl
          refine go_ifq PM159 (k := 7) (p1 := 221) (p2 := 217) (L' := [some (.inr (.inr (some 79))), none, none]) (st' := [.inr (.inr (some 79))]) (w' := (SH, dt98)) rfl (c_ge (a := (dt98 79 13) - (dt98 79 15)) (b := 5) ⟨by omega, by omega⟩ ⟨by decide, by decide⟩) (fun c128 => ?_) (fun c128 => ?_)
          · skip
            refine go_toq PM159 (k := 1) (pc' := 222) (L' := [some (.inr (.inr (some 79))), none, none]) (st' := [.inl 1, .inr (.inr (some 79))]) (w' := (SH, dt98)) rfl ?_
            have hI129 : InvC (u2 dt98 79 14 1) := InvC_u2 hI99 (lo := -2147483648) (hi := 2147483647) rfl rfl rfl (by decide) (by decide)
            have hF130 : Fr [79] dt (u2 dt98 79 14 1) := Fr_u2 hF100 (by decide)
            have w131 : (u2 dt98 79 14 1) 79 13 = dt98 79 13 := rfl
            have w132 : (u2 dt98 79 14 1) 79 14 = 1 := rfl
            have w133 : (u2 dt98 79 14 1) 79 15 = dt98 79 15 := rfl
            have w134 : (u2 dt98 79 14 1) 79 16 = dt98 79 16 := rfl
            have w135 : (u2 dt98 79 14 1) 79 2 = dt98 79 2 := rfl
            have w136 : (u2 dt98 79 14 1) 79 9 = dt98 79 9 := rfl
            have w137 : (u2 dt98 79 14 1) 79 10 = dt98 79 10 := rfl
            have w138 : (u2 dt98 79 14 1) 79 11 = dt98 79 11 := rfl
            have w139 : (u2 dt98 79 14 1) 79 12 = dt98 79 12 := rfl
            have w140 : (u2 dt98 79 14 1) 79 17 = dt98 79 17 := rfl
            have w141 : (u2 dt98 79 14 1) 79 20 = dt98 79 20 := rfl
            refine go_smpq PM159 (L' := [some (.inr (.inr (some 79))), none, none]) (st' := []) (w' := (SH, (u2 dt98 79 14 1))) rfl rfl (s_pf rfl rfl rfl rfl ⟨by decide, by decide⟩) ?_
            refine go_retq PM159 (k := 1) (r := none) (w1 := (SH, (u2 dt98 79 14 1))) rfl ?_
            exact ⟨(u2 dt98 79 14 1), rfl, hI129, hF130, ⟨rfl, ⟨by exact CUP_d q0 (by omega) (by omega) (pDt q5 (by omega)) (TE_d0 ⟨by omega, by omega⟩ (pLf q5 (by omega)) (pDt q5 (by omega)) q2 (by omega) (.inr (pDf hb_h124 (by omega)))) (by first | (rw [if_pos (by omega)]; rfl) | (rw [if_neg (by omega)]; rfl)) (fun z => q3 (by omega)), by first | exact True.intro | assumption | rfl | omega | trivial, by first | exact True.intro | assumption | rfl | omega | trivial, by first | exact True.intro | assumption | rfl | omega | trivial, by first | exact True.intro | assumption | rfl | omega | trivial, by first | exact True.intro | assumption | rfl | omega | trivial, by first | exact True.intro | assumption | rfl | omega | trivial, by first | exact True.intro | assumption | rfl | omega | trivial, by first | exact True.intro | assumption | rfl | omega | trivial⟩⟩⟩
          · skip
            refine go_toq PM159 (k := 2) (pc' := 222) (L' := [some (.inr (.inr (some 79))), none, none]) (st' := [.inl 2, .inr (.inr (some 79))]) (w' := (SH, dt98)) rfl ?_
            have hI142 : InvC (u2 dt98 79 14 2) := InvC_u2 hI99 (lo := -2147483648) (hi := 2147483647) rfl rfl rfl (by decide) (by decide)
            have hF143 : Fr [79] dt (u2 dt98 79 14 2) := Fr_u2 hF100 (by decide)
            have w144 : (u2 dt98 79 14 2) 79 13 = dt98 79 13 := rfl
            have w145 : (u2 dt98 79 14 2) 79 14 = 2 := rfl
            have w146 : (u2 dt98 79 14 2) 79 15 = dt98 79 15 := rfl
            have w147 : (u2 dt98 79 14 2) 79 16 = dt98 79 16 := rfl
            have w148 : (u2 dt98 79 14 2) 79 2 = dt98 79 2 := rfl
            have w149 : (u2 dt98 79 14 2) 79 9 = dt98 79 9 := rfl
            have w150 : (u2 dt98 79 14 2) 79 10 = dt98 79 10 := rfl
            have w151 : (u2 dt98 79 14 2) 79 11 = dt98 79 11 := rfl
            have w152 : (u2 dt98 79 14 2) 79 12 = dt98 79 12 := rfl
            have w153 : (u2 dt98 79 14 2) 79 17 = dt98 79 17 := rfl
            have w154 : (u2 dt98 79 14 2) 79 20 = dt98 79 20 := rfl
            refine go_smpq PM159 (L' := [some (.inr (.inr (some 79))), none, none]) (st' := []) (w' := (SH, (u2 dt98 79 14 2))) rfl rfl (s_pf rfl rfl rfl rfl ⟨by decide, by decide⟩) ?_
            refine go_retq PM159 (k := 1) (r := none) (w1 := (SH, (u2 dt98 79 14 2))) rfl ?_
            exact ⟨(u2 dt98 79 14 2), rfl, hI142, hF143, ⟨rfl, ⟨by exact CUP_d q0 (by omega) (by omega) (pDt q5 (by omega)) (TE_d0 ⟨by omega, by omega⟩ (pLf q5 (by omega)) (pDt q5 (by omega)) q2 (by omega) (.inr (pDf hb_h124 (by omega)))) (by first | (rw [if_pos (by omega)]; rfl) | (rw [if_neg (by omega)]; rfl)) (fun z => q3 (by omega)), by first | exact True.intro | assumption | rfl | omega | trivial, by first | exact True.intro | assumption | rfl | omega | trivial, by first | exact True.intro | assumption | rfl | omega | trivial, by first | exact True.intro | assumption | rfl | omega | trivial, by first | exact True.intro | assumption | rfl | omega | trivial, by first | exact True.intro | assumption | rfl | omega | trivial, by first | exact True.intro | assumption | rfl | omega | trivial, by first | exact True.intro | assumption | rfl | omega | trivial⟩⟩⟩
        · skip
          have r155 : 0 ≤ dt98 79 15 ∧ dt98 79 15 ≤ 500 := InvC_get hI99 79 15 rfl rfl
          refine go_ifq PM159 (k := 6) (p1 := 190) (p2 := 167) (L' := [some (.inr (.inr (some 79))), none, none]) (st' := []) (w' := (SH, dt98)) rfl (c_ge (a := dt98 79 13) (b := (dt98 79 15) + 4) (by first | exact bnd r123 (by decide) (by decide) | exact ⟨by omega, by omega⟩) (by first | exact bndp r155 (by decide) (by decide) | exact ⟨by omega, by omega⟩)) (fun c156 => ?_) (fun c156 => ?_)
          · skip
            refine go_toq PM159 (k := 5) (pc' := 197) (L' := [some (.inr (.inr (some 79))), none, none]) (st' := [.inl ((dt98 79 13) + 1), .inr (.inr (some 79))]) (w' := (SH, dt98)) rfl ?_
            have hI157 : InvC (u2 dt98 79 13 ((dt98 79 13) + 1)) := InvC_u2 hI99 (lo := 0) (hi := 501) rfl rfl rfl (by omega) (by omega)
            have hF158 : Fr [79] dt (u2 dt98 79 13 ((dt98 79 13) + 1)) := Fr_u2 hF100 (by decide)
            have w159 : (u2 dt98 79 13 ((dt98 79 13) + 1)) 79 13 = (dt98 79 13) + 1 := rfl
            have w160 : (u2 dt98 79 13 ((dt98 79 13) + 1)) 79 14 = dt98 79 14 := rfl
            have w161 : (u2 dt98 79 13 ((dt98 79 13) + 1)) 79 15 = dt98 79 15 := rfl
            have w162 : (u2 dt98 79 13 ((dt98 79 13) + 1)) 79 16 = dt98 79 16 := rfl
            have w163 : (u2 dt98 79 13 ((dt98 79 13) + 1)) 79 2 = dt98 79 2 := rfl
            have w164 : (u2 dt98 79 13 ((dt98 79 13) + 1)) 79 9 = dt98 79 9 := rfl
            have w165 : (u2 dt98 79 13 ((dt98 79 13) + 1)) 79 10 = dt98 79 10 := rfl
            have w166 : (u2 dt98 79 13 ((dt98 79 13) + 1)) 79 11 = dt98 79 11 := rfl
            have w167 : (u2 dt98 79 13 ((dt98 79 13) + 1)) 79 12 = dt98 79 12 := rfl
            have w168 : (u2 dt98 79 13 ((dt98 79 13) + 1)) 79 17 = dt98 79 17 := rfl
            have w169 : (u2 dt98 79 13 ((dt98 79 13) + 1)) 79 20 = dt98 79 20 := rfl
            refine go_smpq PM159 (L' := [some (.inr (.inr (some 79))), none, none]) (st' := []) (w' := (SH, (u2 dt98 79 13 ((dt98 79 13) + 1)))) rfl rfl (s_pf rfl rfl rfl rfl (by first | exact bndp r123 (by decide) (by decide) | exact ⟨by omega, by omega⟩)) ?_
            refine go_toq PM159 (k := 1) (pc' := 140) (L' := [some (.inr (.inr (some 79))), none, none]) (st' := []) (w' := (SH, (u2 dt98 79 13 ((dt98 79 13) + 1)))) rfl ?_
            exact GO.le (ih_loop122 (u2 dt98 79 13 ((dt98 79 13) + 1)) hI157 hF158 (by first | omega | rfl | (rw [show (dt 79 15).toNat = (dt 79 13).toNat by first | assumption | omega]; exact h_p4) | exact h_p3 | exact q0 | exact q5 | exact q5 | (rw [show (dt 79 13).toNat = (dt 79 15).toNat by first | assumption | omega]) | exact RN_st q2 (by omega) (by omega) (pDt hb_h124 (by omega)) | (intro z; first | exact nv_z (by omega) (by omega) | exact nv_st (q3 (by omega)) hb_h124 (by omega) (by omega))) (by first | omega | rfl | (rw [show (dt 79 15).toNat = (dt 79 13).toNat by first | assumption | omega]; exact h_p4) | exact h_p3 | exact q0 | exact q5 | exact q5 | (rw [show (dt 79 13).toNat = (dt 79 15).toNat by first | assumption | omega]) | exact RN_st q2 (by omega) (by omega) (pDt hb_h124 (by omega)) | (intro z; first | exact nv_z (by omega) (by omega) | exact nv_st (q3 (by omega)) hb_h124 (by omega) (by omega))) (by first | omega | rfl | (rw [show (dt 79 15).toNat = (dt 79 13).toNat by first | assumption | omega]; exact h_p4) | exact h_p3 | exact q0 | exact q5 | exact q5 | (rw [show (dt 79 13).toNat = (dt 79 15).toNat by first | assumption | omega]) | exact RN_st q2 (by omega) (by omega) (pDt hb_h124 (by omega)) | (intro z; first | exact nv_z (by omega) (by omega) | exact nv_st (q3 (by omega)) hb_h124 (by omega) (by omega))) (by first | omega | rfl | (rw [show (dt 79 15).toNat = (dt 79 13).toNat by first | assumption | omega]; exact h_p4) | exact h_p3 | exact q0 | exact q5 | exact q5 | (rw [show (dt 79 13).toNat = (dt 79 15).toNat by first | assumption | omega]) | exact RN_st q2 (by omega) (by omega) (pDt hb_h124 (by omega)) | (intro z; first | exact nv_z (by omega) (by omega) | exact nv_st (q3 (by omega)) hb_h124 (by omega) (by omega))) (by first | omega | rfl | (rw [show (dt 79 15).toNat = (dt 79 13).toNat by first | assumption | omega]; exact h_p4) | exact h_p3 | exact q0 | exact q5 | exact q5 | (rw [show (dt 79 13).toNat = (dt 79 15).toNat by first | assumption | omega]) | exact RN_st q2 (by omega) (by omega) (pDt hb_h124 (by omega)) | (intro z; first | exact nv_z (by omega) (by omega) | exact nv_st (q3 (by omega)) hb_h124 (by omega) (by omega))) (by first | omega | rfl | (rw [show (dt 79 15).toNat = (dt 79 13).toNat by first | assumption | omega]; exact h_p4) | exact h_p3 | exact q0 | exact q5 | exact q5 | (rw [show (dt 79 13).toNat = (dt 79 15).toNat by first | assumption | omega]) | exact RN_st q2 (by omega) (by omega) (pDt hb_h124 (by omega)) | (intro z; first | exact nv_z (by omega) (by omega) | exact nv_st (q3 (by omega)) hb_h124 (by omega) (by omega))) (by first | omega | rfl | (rw [show (dt 79 15).toNat = (dt 79 13).toNat by first | assumption | omega]; exact h_p4) | exact h_p3 | exact q0 | exact q5 | exact q5 | (rw [show (dt 79 13).toNat = (dt 79 15).toNat by first | assumption | omega]) | exact RN_st q2 (by omega) (by omega) (pDt hb_h124 (by omega)) | (intro z; first | exact nv_z (by omega) (by omega) | exact nv_st (q3 (by omega)) hb_h124 (by omega) (by omega))) (by first | omega | rfl | (rw [show (dt 79 15).toNat = (dt 79 13).toNat by first | assumption | omega]; exact h_p4) | exact h_p3 | exact q0 | exact q5 | exact q5 | (rw [show (dt 79 13).toNat = (dt 79 15).toNat by first | assumption | omega]) | exact RN_st q2 (by omega) (by omega) (pDt hb_h124 (by omega)) | (intro z; first | exact nv_z (by omega) (by omega) | exact nv_st (q3 (by omega)) hb_h124 (by omega) (by omega))) (by first | omega | rfl | (rw [show (dt 79 15).toNat = (dt 79 13).toNat by first | assumption | omega]; exact h_p4) | exact h_p3 | exact q0 | exact q5 | exact q5 | (rw [show (dt 79 13).toNat = (dt 79 15).toNat by first | assumption | omega]) | exact RN_st q2 (by omega) (by omega) (pDt hb_h124 (by omega)) | (intro z; first | exact nv_z (by omega) (by omega) | exact nv_st (q3 (by omega)) hb_h124 (by omega) (by omega))) (by first | omega | rfl | (rw [show (dt 79 15).toNat = (dt 79 13).toNat by first | assumption | omega]; exact h_p4) | exact h_p3 | exact q0 | exact q5 | exact q5 | (rw [show (dt 79 13).toNat = (dt 79 15).toNat by first | assumption | omega]) | exact RN_st q2 (by omega) (by omega) (pDt hb_h124 (by omega)) | (intro z; first | exact nv_z (by omega) (by omega) | exact nv_st (q3 (by omega)) hb_h124 (by omega) (by omega))) (by first | omega | rfl | (rw [show (dt 79 15).toNat = (dt 79 13).toNat by first | assumption | omega]; exact h_p4) | exact h_p3 | exact q0 | exact q5 | exact q5 | (rw [show (dt 79 13).toNat = (dt 79 15).toNat by first | assumption | omega]) | exact RN_st q2 (by omega) (by omega) (pDt hb_h124 (by omega)) | (intro z; first | exact nv_z (by omega) (by omega) | exact nv_st (q3 (by omega)) hb_h124 (by omega) (by omega))) (by first | omega | rfl | (rw [show (dt 79 15).toNat = (dt 79 13).toNat by first | assumption | omega]; exact h_p4) | exact h_p3 | exact q0 | exact q5 | exact q5 | (rw [show (dt 79 13).toNat = (dt 79 15).toNat by first | assumption | omega]) | exact RN_st q2 (by omega) (by omega) (pDt hb_h124 (by omega)) | (intro z; first | exact nv_z (by omega) (by omega) | exact nv_st (q3 (by omega)) hb_h124 (by omega) (by omega))) (by first | omega | rfl | (rw [show (dt 79 15).toNat = (dt 79 13).toNat by first | assumption | omega]; exact h_p4) | exact h_p3 | exact q0 | exact q5 | exact q5 | (rw [show (dt 79 13).toNat = (dt 79 15).toNat by first | assumption | omega]) | exact RN_st q2 (by omega) (by omega) (pDt hb_h124 (by omega)) | (intro z; first | exact nv_z (by omega) (by omega) | exact nv_st (q3 (by omega)) hb_h124 (by omega) (by omega))) (by first | omega | rfl | (rw [show (dt 79 15).toNat = (dt 79 13).toNat by first | assumption | omega]; exact h_p4) | exact h_p3 | exact q0 | exact q5 | exact q5 | (rw [show (dt 79 13).toNat = (dt 79 15).toNat by first | assumption | omega]) | exact RN_st q2 (by omega) (by omega) (pDt hb_h124 (by omega)) | (intro z; first | exact nv_z (by omega) (by omega) | exact nv_st (q3 (by omega)) hb_h124 (by omega) (by omega))) (by first | omega | rfl | (rw [show (dt 79 15).toNat = (dt 79 13).toNat by first | assumption | omega]; exact h_p4) | exact h_p3 | exact q0 | exact q5 | exact q5 | (rw [show (dt 79 13).toNat = (dt 79 15).toNat by first | assumption | omega]) | exact RN_st q2 (by omega) (by omega) (pDt hb_h124 (by omega)) | (intro z; first | exact nv_z (by omega) (by omega) | exact nv_st (q3 (by omega)) hb_h124 (by omega) (by omega))) (by first | omega | rfl | (rw [show (dt 79 15).toNat = (dt 79 13).toNat by first | assumption | omega]; exact h_p4) | exact h_p3 | exact q0 | exact q5 | exact q5 | (rw [show (dt 79 13).toNat = (dt 79 15).toNat by first | assumption | omega]) | exact RN_st q2 (by omega) (by omega) (pDt hb_h124 (by omega)) | (intro z; first | exact nv_z (by omega) (by omega) | exact nv_st (q3 (by omega)) hb_h124 (by omega) (by omega))) (by first | omega | rfl | (rw [show (dt 79 15).toNat = (dt 79 13).toNat by first | assumption | omega]; exact h_p4) | exact h_p3 | exact q0 | exact q5 | exact q5 | (rw [show (dt 79 13).toNat = (dt 79 15).toNat by first | assumption | omega]) | exact RN_st q2 (by omega) (by omega) (pDt hb_h124 (by omega)) | (intro z; first | exact nv_z (by omega) (by omega) | exact nv_st (q3 (by omega)) hb_h124 (by omega) (by omega))) (by first | omega | rfl | (rw [show (dt 79 15).toNat = (dt 79 13).toNat by first | assumption | omega]; exact h_p4) | exact h_p3 | exact q0 | exact q5 | exact q5 | (rw [show (dt 79 13).toNat = (dt 79 15).toNat by first | assumption | omega]) | exact RN_st q2 (by omega) (by omega) (pDt hb_h124 (by omega)) | (intro z; first | exact nv_z (by omega) (by omega) | exact nv_st (q3 (by omega)) hb_h124 (by omega) (by omega))) (by first | omega | rfl | (rw [show (dt 79 15).toNat = (dt 79 13).toNat by first | assumption | omega]; exact h_p4) | exact h_p3 | exact q0 | exact q5 | exact q5 | (rw [show (dt 79 13).toNat = (dt 79 15).toNat by first | assumption | omega]) | exact RN_st q2 (by omega) (by omega) (pDt hb_h124 (by omega)) | (intro z; first | exact nv_z (by omega) (by omega) | exact nv_st (q3 (by omega)) hb_h124 (by omega) (by omega))) (by first | omega | rfl | (rw [show (dt 79 15).toNat = (dt 79 13).toNat by first | assumption | omega]; exact h_p4) | exact h_p3 | exact q0 | exact q5 | exact q5 | (rw [show (dt 79 13).toNat = (dt 79 15).toNat by first | assumption | omega]) | exact RN_st q2 (by omega) (by omega) (pDt hb_h124 (by omega)) | (intro z; first | exact nv_z (by omega) (by omega) | exact nv_st (q3 (by omega)) hb_h124 (by omega) (by omega))) (by first | omega | rfl | (rw [show (dt 79 15).toNat = (dt 79 13).toNat by first | assumption | omega]; exact h_p4) | exact h_p3 | exact q0 | exact q5 | exact q5 | (rw [show (dt 79 13).toNat = (dt 79 15).toNat by first | assumption | omega]) | exact RN_st q2 (by omega) (by omega) (pDt hb_h124 (by omega)) | (intro z; first | exact nv_z (by omega) (by omega) | exact nv_st (q3 (by omega)) hb_h124 (by omega) (by omega))) (by omega)) ⟨.inl rfl, .inl rfl, .inl rfl, trivial⟩
          · skip
            have r170 : 0 ≤ dt98 79 16 ∧ dt98 79 16 ≤ 9999 := InvC_get hI99 79 16 rfl rfl
            refine go_toq PM159 (k := 8) (pc' := 180) (L' := [some (.inr (.inr (some 79))), none, none]) (st' := [.inl (dt98 79 13), .inr (.inr (some 79)), .inl (10 * (dt98 79 16)), .inr (.inr (some 79))]) (w' := (SH, dt98)) rfl ?_
            refine go_callq PM159 PM153 (Q' := _) rfl rfl rfl rfl (sp_X6_see_f L xs sio (d + 5) dt98 hI99  (dt98 79 13) (by first | exact bnd r123 (by decide) (by decide) | exact bndd r123 c156 (by decide) (by decide) | exact ⟨by omega, by omega⟩) ) ?_
            rintro _ _ ⟨rfl, h171⟩
            refine ⟨rfl, ?_⟩
            rcases h171 with ⟨v_h171, rfl, h171r, h171⟩ | ⟨rfl, h171⟩
            · skip
              obtain ⟨h171_0, h171_1⟩ := h171
              have hb_h171 : v_h171 = (mB (dt 85) (dt 79 12)) (dt98 79 13).toNat := by have z := h171_1; rw [show dt98 85 = dt 85 from funext (hF100 85 (by decide)), show dt98 79 12 = dt 79 12 by first | assumption | omega] at z; exact z
              refine go_toq PM159 (k := 3) (pc' := 187) (L' := [some (.inr (.inr (some 79))), none, none]) (st' := [.inl (((10 * (dt98 79 16)) + v_h171) - 48), .inr (.inr (some 79))]) (w' := (SH, dt98)) rfl ?_
              have hI172 : InvC (u2 dt98 79 16 (((10 * (dt98 79 16)) + v_h171) - 48)) := InvC_u2 hI99 (lo := 0) (hi := 9999) rfl rfl rfl (by omega) (by omega)
              have hF173 : Fr [79] dt (u2 dt98 79 16 (((10 * (dt98 79 16)) + v_h171) - 48)) := Fr_u2 hF100 (by decide)
              have w174 : (u2 dt98 79 16 (((10 * (dt98 79 16)) + v_h171) - 48)) 79 13 = dt98 79 13 := rfl
              have w175 : (u2 dt98 79 16 (((10 * (dt98 79 16)) + v_h171) - 48)) 79 14 = dt98 79 14 := rfl
              have w176 : (u2 dt98 79 16 (((10 * (dt98 79 16)) + v_h171) - 48)) 79 15 = dt98 79 15 := rfl
              have w177 : (u2 dt98 79 16 (((10 * (dt98 79 16)) + v_h171) - 48)) 79 16 = ((10 * (dt98 79 16)) + v_h171) - 48 := rfl
              have w178 : (u2 dt98 79 16 (((10 * (dt98 79 16)) + v_h171) - 48)) 79 2 = dt98 79 2 := rfl
              have w179 : (u2 dt98 79 16 (((10 * (dt98 79 16)) + v_h171) - 48)) 79 9 = dt98 79 9 := rfl
              have w180 : (u2 dt98 79 16 (((10 * (dt98 79 16)) + v_h171) - 48)) 79 10 = dt98 79 10 := rfl
              have w181 : (u2 dt98 79 16 (((10 * (dt98 79 16)) + v_h171) - 48)) 79 11 = dt98 79 11 := rfl
              have w182 : (u2 dt98 79 16 (((10 * (dt98 79 16)) + v_h171) - 48)) 79 12 = dt98 79 12 := rfl
              have w183 : (u2 dt98 79 16 (((10 * (dt98 79 16)) + v_h171) - 48)) 79 17 = dt98 79 17 := rfl
              have w184 : (u2 dt98 79 16 (((10 * (dt98 79 16)) + v_h171) - 48)) 79 20 = dt98 79 20 := rfl
              refine go_smpq PM159 (L' := [some (.inr (.inr (some 79))), none, none]) (st' := []) (w' := (SH, (u2 dt98 79 16 (((10 * (dt98 79 16)) + v_h171) - 48)))) rfl rfl (s_pf rfl rfl rfl rfl ⟨by omega, by omega⟩) ?_
              refine go_toq PM159 (k := 5) (pc' := 197) (L' := [some (.inr (.inr (some 79))), none, none]) (st' := [.inl ((dt98 79 13) + 1), .inr (.inr (some 79))]) (w' := (SH, (u2 dt98 79 16 (((10 * (dt98 79 16)) + v_h171) - 48)))) rfl ?_
              have hI185 : InvC (u2 (u2 dt98 79 16 (((10 * (dt98 79 16)) + v_h171) - 48)) 79 13 ((dt98 79 13) + 1)) := InvC_u2 hI172 (lo := 0) (hi := 501) rfl rfl rfl (by omega) (by omega)
              have hF186 : Fr [79] dt (u2 (u2 dt98 79 16 (((10 * (dt98 79 16)) + v_h171) - 48)) 79 13 ((dt98 79 13) + 1)) := Fr_u2 hF173 (by decide)
              have w187 : (u2 (u2 dt98 79 16 (((10 * (dt98 79 16)) + v_h171) - 48)) 79 13 ((dt98 79 13) + 1)) 79 13 = (dt98 79 13) + 1 := rfl
              have w188 : (u2 (u2 dt98 79 16 (((10 * (dt98 79 16)) + v_h171) - 48)) 79 13 ((dt98 79 13) + 1)) 79 14 = dt98 79 14 := rfl
              have w189 : (u2 (u2 dt98 79 16 (((10 * (dt98 79 16)) + v_h171) - 48)) 79 13 ((dt98 79 13) + 1)) 79 15 = dt98 79 15 := rfl
              have w190 : (u2 (u2 dt98 79 16 (((10 * (dt98 79 16)) + v_h171) - 48)) 79 13 ((dt98 79 13) + 1)) 79 16 = ((10 * (dt98 79 16)) + v_h171) - 48 := rfl
              have w191 : (u2 (u2 dt98 79 16 (((10 * (dt98 79 16)) + v_h171) - 48)) 79 13 ((dt98 79 13) + 1)) 79 2 = dt98 79 2 := rfl
              have w192 : (u2 (u2 dt98 79 16 (((10 * (dt98 79 16)) + v_h171) - 48)) 79 13 ((dt98 79 13) + 1)) 79 9 = dt98 79 9 := rfl
              have w193 : (u2 (u2 dt98 79 16 (((10 * (dt98 79 16)) + v_h171) - 48)) 79 13 ((dt98 79 13) + 1)) 79 10 = dt98 79 10 := rfl
              have w194 : (u2 (u2 dt98 79 16 (((10 * (dt98 79 16)) + v_h171) - 48)) 79 13 ((dt98 79 13) + 1)) 79 11 = dt98 79 11 := rfl
              have w195 : (u2 (u2 dt98 79 16 (((10 * (dt98 79 16)) + v_h171) - 48)) 79 13 ((dt98 79 13) + 1)) 79 12 = dt98 79 12 := rfl
              have w196 : (u2 (u2 dt98 79 16 (((10 * (dt98 79 16)) + v_h171) - 48)) 79 13 ((dt98 79 13) + 1)) 79 17 = dt98 79 17 := rfl
              have w197 : (u2 (u2 dt98 79 16 (((10 * (dt98 79 16)) + v_h171) - 48)) 79 13 ((dt98 79 13) + 1)) 79 20 = dt98 79 20 := rfl
              clear w174 w175 w176 w177 w178 w179 w180 w181 w182 w183 w184
              refine go_smpq PM159 (L' := [some (.inr (.inr (some 79))), none, none]) (st' := []) (w' := (SH, (u2 (u2 dt98 79 16 (((10 * (dt98 79 16)) + v_h171) - 48)) 79 13 ((dt98 79 13) + 1)))) rfl rfl (s_pf rfl rfl rfl rfl (by first | exact bndp r123 (by decide) (by decide) | exact ⟨by omega, by omega⟩)) ?_
              refine go_toq PM159 (k := 1) (pc' := 140) (L' := [some (.inr (.inr (some 79))), none, none]) (st' := []) (w' := (SH, (u2 (u2 dt98 79 16 (((10 * (dt98 79 16)) + v_h171) - 48)) 79 13 ((dt98 79 13) + 1)))) rfl ?_
              exact GO.le (ih_loop122 (u2 (u2 dt98 79 16 (((10 * (dt98 79 16)) + v_h171) - 48)) 79 13 ((dt98 79 13) + 1)) hI185 hF186 (by first | omega | rfl | (rw [show (dt 79 15).toNat = (dt 79 13).toNat by first | assumption | omega]; exact h_p4) | exact h_p3 | exact q0 | exact q5 | exact q5 | (rw [show (dt 79 13).toNat = (dt 79 15).toNat by first | assumption | omega]) | exact RN_st q2 (by omega) (by omega) (pDt hb_h171 (by omega)) | (intro z; first | exact nv_z (by omega) (by omega) | exact nv_st (q3 (by omega)) hb_h171 (by omega) (by omega))) (by first | omega | rfl | (rw [show (dt 79 15).toNat = (dt 79 13).toNat by first | assumption | omega]; exact h_p4) | exact h_p3 | exact q0 | exact q5 | exact q5 | (rw [show (dt 79 13).toNat = (dt 79 15).toNat by first | assumption | omega]) | exact RN_st q2 (by omega) (by omega) (pDt hb_h171 (by omega)) | (intro z; first | exact nv_z (by omega) (by omega) | exact nv_st (q3 (by omega)) hb_h171 (by omega) (by omega))) (by first | omega | rfl | (rw [show (dt 79 15).toNat = (dt 79 13).toNat by first | assumption | omega]; exact h_p4) | exact h_p3 | exact q0 | exact q5 | exact q5 | (rw [show (dt 79 13).toNat = (dt 79 15).toNat by first | assumption | omega]) | exact RN_st q2 (by omega) (by omega) (pDt hb_h171 (by omega)) | (intro z; first | exact nv_z (by omega) (by omega) | exact nv_st (q3 (by omega)) hb_h171 (by omega) (by omega))) (by first | omega | rfl | (rw [show (dt 79 15).toNat = (dt 79 13).toNat by first | assumption | omega]; exact h_p4) | exact h_p3 | exact q0 | exact q5 | exact q5 | (rw [show (dt 79 13).toNat = (dt 79 15).toNat by first | assumption | omega]) | exact RN_st q2 (by omega) (by omega) (pDt hb_h171 (by omega)) | (intro z; first | exact nv_z (by omega) (by omega) | exact nv_st (q3 (by omega)) hb_h171 (by omega) (by omega))) (by first | omega | rfl | (rw [show (dt 79 15).toNat = (dt 79 13).toNat by first | assumption | omega]; exact h_p4) | exact h_p3 | exact q0 | exact q5 | exact q5 | (rw [show (dt 79 13).toNat = (dt 79 15).toNat by first | assumption | omega]) | exact RN_st q2 (by omega) (by omega) (pDt hb_h171 (by omega)) | (intro z; first | exact nv_z (by omega) (by omega) | exact nv_st (q3 (by omega)) hb_h171 (by omega) (by omega))) (by first | omega | rfl | (rw [show (dt 79 15).toNat = (dt 79 13).toNat by first | assumption | omega]; exact h_p4) | exact h_p3 | exact q0 | exact q5 | exact q5 | (rw [show (dt 79 13).toNat = (dt 79 15).toNat by first | assumption | omega]) | exact RN_st q2 (by omega) (by omega) (pDt hb_h171 (by omega)) | (intro z; first | exact nv_z (by omega) (by omega) | exact nv_st (q3 (by omega)) hb_h171 (by omega) (by omega))) (by first | omega | rfl | (rw [show (dt 79 15).toNat = (dt 79 13).toNat by first | assumption | omega]; exact h_p4) | exact h_p3 | exact q0 | exact q5 | exact q5 | (rw [show (dt 79 13).toNat = (dt 79 15).toNat by first | assumption | omega]) | exact RN_st q2 (by omega) (by omega) (pDt hb_h171 (by omega)) | (intro z; first | exact nv_z (by omega) (by omega) | exact nv_st (q3 (by omega)) hb_h171 (by omega) (by omega))) (by first | omega | rfl | (rw [show (dt 79 15).toNat = (dt 79 13).toNat by first | assumption | omega]; exact h_p4) | exact h_p3 | exact q0 | exact q5 | exact q5 | (rw [show (dt 79 13).toNat = (dt 79 15).toNat by first | assumption | omega]) | exact RN_st q2 (by omega) (by omega) (pDt hb_h171 (by omega)) | (intro z; first | exact nv_z (by omega) (by omega) | exact nv_st (q3 (by omega)) hb_h171 (by omega) (by omega))) (by first | omega | rfl | (rw [show (dt 79 15).toNat = (dt 79 13).toNat by first | assumption | omega]; exact h_p4) | exact h_p3 | exact q0 | exact q5 | exact q5 | (rw [show (dt 79 13).toNat = (dt 79 15).toNat by first | assumption | omega]) | exact RN_st q2 (by omega) (by omega) (pDt hb_h171 (by omega)) | (intro z; first | exact nv_z (by omega) (by omega) | exact nv_st (q3 (by omega)) hb_h171 (by omega) (by omega))) (by first | omega | rfl | (rw [show (dt 79 15).toNat = (dt 79 13).toNat by first | assumption | omega]; exact h_p4) | exact h_p3 | exact q0 | exact q5 | exact q5 | (rw [show (dt 79 13).toNat = (dt 79 15).toNat by first | assumption | omega]) | exact RN_st q2 (by omega) (by omega) (pDt hb_h171 (by omega)) | (intro z; first | exact nv_z (by omega) (by omega) | exact nv_st (q3 (by omega)) hb_h171 (by omega) (by omega))) (by first | omega | rfl | (rw [show (dt 79 15).toNat = (dt 79 13).toNat by first | assumption | omega]; exact h_p4) | exact h_p3 | exact q0 | exact q5 | exact q5 | (rw [show (dt 79 13).toNat = (dt 79 15).toNat by first | assumption | omega]) | exact RN_st q2 (by omega) (by omega) (pDt hb_h171 (by omega)) | (intro z; first | exact nv_z (by omega) (by omega) | exact nv_st (q3 (by omega)) hb_h171 (by omega) (by omega))) (by first | omega | rfl | (rw [show (dt 79 15).toNat = (dt 79 13).toNat by first | assumption | omega]; exact h_p4) | exact h_p3 | exact q0 | exact q5 | exact q5 | (rw [show (dt 79 13).toNat = (dt 79 15).toNat by first | assumption | omega]) | exact RN_st q2 (by omega) (by omega) (pDt hb_h171 (by omega)) | (intro z; first | exact nv_z (by omega) (by omega) | exact nv_st (q3 (by omega)) hb_h171 (by omega) (by omega))) (by first | omega | rfl | (rw [show (dt 79 15).toNat = (dt 79 13).toNat by first | assumption | omega]; exact h_p4) | exact h_p3 | exact q0 | exact q5 | exact q5 | (rw [show (dt 79 13).toNat = (dt 79 15).toNat by first | assumption | omega]) | exact RN_st q2 (by omega) (by omega) (pDt hb_h171 (by omega)) | (intro z; first | exact nv_z (by omega) (by omega) | exact nv_st (q3 (by omega)) hb_h171 (by omega) (by omega))) (by first | omega | rfl | (rw [show (dt 79 15).toNat = (dt 79 13).toNat by first | assumption | omega]; exact h_p4) | exact h_p3 | exact q0 | exact q5 | exact q5 | (rw [show (dt 79 13).toNat = (dt 79 15).toNat by first | assumption | omega]) | exact RN_st q2 (by omega) (by omega) (pDt hb_h171 (by omega)) | (intro z; first | exact nv_z (by omega) (by omega) | exact nv_st (q3 (by omega)) hb_h171 (by omega) (by omega))) (by first | omega | rfl | (rw [show (dt 79 15).toNat = (dt 79 13).toNat by first | assumption | omega]; exact h_p4) | exact h_p3 | exact q0 | exact q5 | exact q5 | (rw [show (dt 79 13).toNat = (dt 79 15).toNat by first | assumption | omega]) | exact RN_st q2 (by omega) (by omega) (pDt hb_h171 (by omega)) | (intro z; first | exact nv_z (by omega) (by omega) | exact nv_st (q3 (by omega)) hb_h171 (by omega) (by omega))) (by first | omega | rfl | (rw [show (dt 79 15).toNat = (dt 79 13).toNat by first | assumption | omega]; exact h_p4) | exact h_p3 | exact q0 | exact q5 | exact q5 | (rw [show (dt 79 13).toNat = (dt 79 15).toNat by first | assumption | omega]) | exact RN_st q2 (by omega) (by omega) (pDt hb_h171 (by omega)) | (intro z; first | exact nv_z (by omega) (by omega) | exact nv_st (q3 (by omega)) hb_h171 (by omega) (by omega))) (by first | omega | rfl | (rw [show (dt 79 15).toNat = (dt 79 13).toNat by first | assumption | omega]; exact h_p4) | exact h_p3 | exact q0 | exact q5 | exact q5 | (rw [show (dt 79 13).toNat = (dt 79 15).toNat by first | assumption | omega]) | exact RN_st q2 (by omega) (by omega) (pDt hb_h171 (by omega)) | (intro z; first | exact nv_z (by omega) (by omega) | exact nv_st (q3 (by omega)) hb_h171 (by omega) (by omega))) (by first | omega | rfl | (rw [show (dt 79 15).toNat = (dt 79 13).toNat by first | assumption | omega]; exact h_p4) | exact h_p3 | exact q0 | exact q5 | exact q5 | (rw [show (dt 79 13).toNat = (dt 79 15).toNat by first | assumption | omega]) | exact RN_st q2 (by omega) (by omega) (pDt hb_h171 (by omega)) | (intro z; first | exact nv_z (by omega) (by omega) | exact nv_st (q3 (by omega)) hb_h171 (by omega) (by omega))) (by first | omega | rfl | (rw [show (dt 79 15).toNat = (dt 79 13).toNat by first | assumption | omega]; exact h_p4) | exact h_p3 | exact q0 | exact q5 | exact q5 | (rw [show (dt 79 13).toNat = (dt 79 15).toNat by first | assumption | omega]) | exact RN_st q2 (by omega) (by omega) (pDt hb_h171 (by omega)) | (intro z; first | exact nv_z (by omega) (by omega) | exact nv_st (q3 (by omega)) hb_h171 (by omega) (by omega))) (by first | omega | rfl | (rw [show (dt 79 15).toNat = (dt 79 13).toNat by first | assumption | omega]; exact h_p4) | exact h_p3 | exact q0 | exact q5 | exact q5 | (rw [show (dt 79 13).toNat = (dt 79 15).toNat by first | assumption | omega]) | exact RN_st q2 (by omega) (by omega) (pDt hb_h171 (by omega)) | (intro z; first | exact nv_z (by omega) (by omega) | exact nv_st (q3 (by omega)) hb_h171 (by omega) (by omega))) (by first | omega | rfl | (rw [show (dt 79 15).toNat = (dt 79 13).toNat by first | assumption | omega]; exact h_p4) | exact h_p3 | exact q0 | exact q5 | exact q5 | (rw [show (dt 79 13).toNat = (dt 79 15).toNat by first | assumption | omega]) | exact RN_st q2 (by omega) (by omega) (pDt hb_h171 (by omega)) | (intro z; first | exact nv_z (by omega) (by omega) | exact nv_st (q3 (by omega)) hb_h171 (by omega) (by omega))) (by omega)) ⟨.inl rfl, .inl rfl, .inl rfl, trivial⟩
            · skip
              exfalso; omega
      · skip
        refine go_callq PM159 PM155 (Q' := _) rfl rfl rfl rfl (sp_X6_isDigit L xs sio (d + 4) dt98 hI99  (-1) ⟨by decide, by decide⟩ ) ?_
        rintro _ _ ⟨rfl, h198⟩
        refine ⟨rfl, ?_⟩
        rcases h198 with ⟨v_h198, rfl, h198r, h198⟩
        refine go_ifq PM159 (k := 0) (p1 := 203) (p2 := 154) (L' := [some (.inr (.inr (some 79))), none, none]) (st' := []) (w' := (SH, dt98)) rfl (z_eq (a := v_h198) (by first | exact bnd h198r (by decide) (by decide) | exact ⟨by omega, by omega⟩)) (fun c199 => ?_) (fun c199 => ?_)
        · skip
          have r200 : 0 ≤ dt98 79 15 ∧ dt98 79 15 ≤ 500 := InvC_get hI99 79 15 rfl rfl
          refine go_ifq PM159 (k := 7) (p1 := 221) (p2 := 217) (L' := [some (.inr (.inr (some 79))), none, none]) (st' := [.inr (.inr (some 79))]) (w' := (SH, dt98)) rfl (c_ge (a := (dt98 79 13) - (dt98 79 15)) (b := 5) ⟨by omega, by omega⟩ ⟨by decide, by decide⟩) (fun c201 => ?_) (fun c201 => ?_)
          · skip
            refine go_toq PM159 (k := 1) (pc' := 222) (L' := [some (.inr (.inr (some 79))), none, none]) (st' := [.inl 1, .inr (.inr (some 79))]) (w' := (SH, dt98)) rfl ?_
            have hI202 : InvC (u2 dt98 79 14 1) := InvC_u2 hI99 (lo := -2147483648) (hi := 2147483647) rfl rfl rfl (by decide) (by decide)
            have hF203 : Fr [79] dt (u2 dt98 79 14 1) := Fr_u2 hF100 (by decide)
            have w204 : (u2 dt98 79 14 1) 79 13 = dt98 79 13 := rfl
            have w205 : (u2 dt98 79 14 1) 79 14 = 1 := rfl
            have w206 : (u2 dt98 79 14 1) 79 15 = dt98 79 15 := rfl
            have w207 : (u2 dt98 79 14 1) 79 16 = dt98 79 16 := rfl
            have w208 : (u2 dt98 79 14 1) 79 2 = dt98 79 2 := rfl
            have w209 : (u2 dt98 79 14 1) 79 9 = dt98 79 9 := rfl
            have w210 : (u2 dt98 79 14 1) 79 10 = dt98 79 10 := rfl
            have w211 : (u2 dt98 79 14 1) 79 11 = dt98 79 11 := rfl
            have w212 : (u2 dt98 79 14 1) 79 12 = dt98 79 12 := rfl
            have w213 : (u2 dt98 79 14 1) 79 17 = dt98 79 17 := rfl
            have w214 : (u2 dt98 79 14 1) 79 20 = dt98 79 20 := rfl
            refine go_smpq PM159 (L' := [some (.inr (.inr (some 79))), none, none]) (st' := []) (w' := (SH, (u2 dt98 79 14 1))) rfl rfl (s_pf rfl rfl rfl rfl ⟨by decide, by decide⟩) ?_
            refine go_retq PM159 (k := 1) (r := none) (w1 := (SH, (u2 dt98 79 14 1))) rfl ?_
            exact ⟨(u2 dt98 79 14 1), rfl, hI202, hF203, ⟨rfl, ⟨by exact CUP_d q0 (by omega) (by omega) (pDt q5 (by omega)) (TE_d0 ⟨by omega, by omega⟩ (pLf q5 (by omega)) (pDt q5 (by omega)) q2 (by omega) (.inl (by omega))) (by first | (rw [if_pos (by omega)]; rfl) | (rw [if_neg (by omega)]; rfl)) (fun z => q3 (by omega)), by first | exact True.intro | assumption | rfl | omega | trivial, by first | exact True.intro | assumption | rfl | omega | trivial, by first | exact True.intro | assumption | rfl | omega | trivial, by first | exact True.intro | assumption | rfl | omega | trivial, by first | exact True.intro | assumption | rfl | omega | trivial, by first | exact True.intro | assumption | rfl | omega | trivial, by first | exact True.intro | assumption | rfl | omega | trivial, by first | exact True.intro | assumption | rfl | omega | trivial⟩⟩⟩
          · skip
            refine go_toq PM159 (k := 2) (pc' := 222) (L' := [some (.inr (.inr (some 79))), none, none]) (st' := [.inl 2, .inr (.inr (some 79))]) (w' := (SH, dt98)) rfl ?_
            have hI215 : InvC (u2 dt98 79 14 2) := InvC_u2 hI99 (lo := -2147483648) (hi := 2147483647) rfl rfl rfl (by decide) (by decide)
            have hF216 : Fr [79] dt (u2 dt98 79 14 2) := Fr_u2 hF100 (by decide)
            have w217 : (u2 dt98 79 14 2) 79 13 = dt98 79 13 := rfl
            have w218 : (u2 dt98 79 14 2) 79 14 = 2 := rfl
            have w219 : (u2 dt98 79 14 2) 79 15 = dt98 79 15 := rfl
            have w220 : (u2 dt98 79 14 2) 79 16 = dt98 79 16 := rfl
            have w221 : (u2 dt98 79 14 2) 79 2 = dt98 79 2 := rfl
            have w222 : (u2 dt98 79 14 2) 79 9 = dt98 79 9 := rfl
            have w223 : (u2 dt98 79 14 2) 79 10 = dt98 79 10 := rfl
            have w224 : (u2 dt98 79 14 2) 79 11 = dt98 79 11 := rfl
            have w225 : (u2 dt98 79 14 2) 79 12 = dt98 79 12 := rfl
            have w226 : (u2 dt98 79 14 2) 79 17 = dt98 79 17 := rfl
            have w227 : (u2 dt98 79 14 2) 79 20 = dt98 79 20 := rfl
            refine go_smpq PM159 (L' := [some (.inr (.inr (some 79))), none, none]) (st' := []) (w' := (SH, (u2 dt98 79 14 2))) rfl rfl (s_pf rfl rfl rfl rfl ⟨by decide, by decide⟩) ?_
            refine go_retq PM159 (k := 1) (r := none) (w1 := (SH, (u2 dt98 79 14 2))) rfl ?_
            exact ⟨(u2 dt98 79 14 2), rfl, hI215, hF216, ⟨rfl, ⟨by exact CUP_d q0 (by omega) (by omega) (pDt q5 (by omega)) (TE_d0 ⟨by omega, by omega⟩ (pLf q5 (by omega)) (pDt q5 (by omega)) q2 (by omega) (.inl (by omega))) (by first | (rw [if_pos (by omega)]; rfl) | (rw [if_neg (by omega)]; rfl)) (fun z => q3 (by omega)), by first | exact True.intro | assumption | rfl | omega | trivial, by first | exact True.intro | assumption | rfl | omega | trivial, by first | exact True.intro | assumption | rfl | omega | trivial, by first | exact True.intro | assumption | rfl | omega | trivial, by first | exact True.intro | assumption | rfl | omega | trivial, by first | exact True.intro | assumption | rfl | omega | trivial, by first | exact True.intro | assumption | rfl | omega | trivial, by first | exact True.intro | assumption | rfl | omega | trivial⟩⟩⟩
        · skip
          have r228 : 0 ≤ dt98 79 15 ∧ dt98 79 15 ≤ 500 := InvC_get hI99 79 15 rfl rfl
          refine go_ifq PM159 (k := 6) (p1 := 190) (p2 := 167) (L' := [some (.inr (.inr (some 79))), none, none]) (st' := []) (w' := (SH, dt98)) rfl (c_ge (a := dt98 79 13) (b := (dt98 79 15) + 4) (by first | exact bnd r123 (by decide) (by decide) | exact ⟨by omega, by omega⟩) (by first | exact bndp r228 (by decide) (by decide) | exact ⟨by omega, by omega⟩)) (fun c229 => ?_) (fun c229 => ?_)
          · skip
            refine go_toq PM159 (k := 5) (pc' := 197) (L' := [some (.inr (.inr (some 79))), none, none]) (st' := [.inl ((dt98 79 13) + 1), .inr (.inr (some 79))]) (w' := (SH, dt98)) rfl ?_
            have hI230 : InvC (u2 dt98 79 13 ((dt98 79 13) + 1)) := InvC_u2 hI99 (lo := 0) (hi := 501) rfl rfl rfl (by omega) (by omega)
            have hF231 : Fr [79] dt (u2 dt98 79 13 ((dt98 79 13) + 1)) := Fr_u2 hF100 (by decide)
            have w232 : (u2 dt98 79 13 ((dt98 79 13) + 1)) 79 13 = (dt98 79 13) + 1 := rfl
            have w233 : (u2 dt98 79 13 ((dt98 79 13) + 1)) 79 14 = dt98 79 14 := rfl
            have w234 : (u2 dt98 79 13 ((dt98 79 13) + 1)) 79 15 = dt98 79 15 := rfl
            have w235 : (u2 dt98 79 13 ((dt98 79 13) + 1)) 79 16 = dt98 79 16 := rfl
            have w236 : (u2 dt98 79 13 ((dt98 79 13) + 1)) 79 2 = dt98 79 2 := rfl
            have w237 : (u2 dt98 79 13 ((dt98 79 13) + 1)) 79 9 = dt98 79 9 := rfl
            have w238 : (u2 dt98 79 13 ((dt98 79 13) + 1)) 79 10 = dt98 79 10 := rfl
            have w239 : (u2 dt98 79 13 ((dt98 79 13) + 1)) 79 11 = dt98 79 11 := rfl
            have w240 : (u2 dt98 79 13 ((dt98 79 13) + 1)) 79 12 = dt98 79 12 := rfl
            have w241 : (u2 dt98 79 13 ((dt98 79 13) + 1)) 79 17 = dt98 79 17 := rfl
            have w242 : (u2 dt98 79 13 ((dt98 79 13) + 1)) 79 20 = dt98 79 20 := rfl
            refine go_smpq PM159 (L' := [some (.inr (.inr (some 79))), none, none]) (st' := []) (w' := (SH, (u2 dt98 79 13 ((dt98 79 13) + 1)))) rfl rfl (s_pf rfl rfl rfl rfl (by first | exact bndp r123 (by decide) (by decide) | exact ⟨by omega, by omega⟩)) ?_
            refine go_toq PM159 (k := 1) (pc' := 140) (L' := [some (.inr (.inr (some 79))), none, none]) (st' := []) (w' := (SH, (u2 dt98 79 13 ((dt98 79 13) + 1)))) rfl ?_
            exact GO.le (ih_loop122 (u2 dt98 79 13 ((dt98 79 13) + 1)) hI230 hF231 (by first | omega | rfl | (rw [show (dt 79 15).toNat = (dt 79 13).toNat by first | assumption | omega]; exact h_p4) | exact h_p3 | exact q0 | exact q5 | exact q5 | (rw [show (dt 79 13).toNat = (dt 79 15).toNat by first | assumption | omega]) | exact RN_st q2 (by omega) (by omega) (pDt hI (by omega)) | (intro z; first | exact nv_z (by omega) (by omega) | exact nv_st (q3 (by omega)) hI (by omega) (by omega))) (by first | omega | rfl | (rw [show (dt 79 15).toNat = (dt 79 13).toNat by first | assumption | omega]; exact h_p4) | exact h_p3 | exact q0 | exact q5 | exact q5 | (rw [show (dt 79 13).toNat = (dt 79 15).toNat by first | assumption | omega]) | exact RN_st q2 (by omega) (by omega) (pDt hI (by omega)) | (intro z; first | exact nv_z (by omega) (by omega) | exact nv_st (q3 (by omega)) hI (by omega) (by omega))) (by first | omega | rfl | (rw [show (dt 79 15).toNat = (dt 79 13).toNat by first | assumption | omega]; exact h_p4) | exact h_p3 | exact q0 | exact q5 | exact q5 | (rw [show (dt 79 13).toNat = (dt 79 15).toNat by first | assumption | omega]) | exact RN_st q2 (by omega) (by omega) (pDt hI (by omega)) | (intro z; first | exact nv_z (by omega) (by omega) | exact nv_st (q3 (by omega)) hI (by omega) (by omega))) (by first | omega | rfl | (rw [show (dt 79 15).toNat = (dt 79 13).toNat by first | assumption | omega]; exact h_p4) | exact h_p3 | exact q0 | exact q5 | exact q5 | (rw [show (dt 79 13).toNat = (dt 79 15).toNat by first | assumption | omega]) | exact RN_st q2 (by omega) (by omega) (pDt hI (by omega)) | (intro z; first | exact nv_z (by omega) (by omega) | exact nv_st (q3 (by omega)) hI (by omega) (by omega))) (by first | omega | rfl | (rw [show (dt 79 15).toNat = (dt 79 13).toNat by first | assumption | omega]; exact h_p4) | exact h_p3 | exact q0 | exact q5 | exact q5 | (rw [show (dt 79 13).toNat = (dt 79 15).toNat by first | assumption | omega]) | exact RN_st q2 (by omega) (by omega) (pDt hI (by omega)) | (intro z; first | exact nv_z (by omega) (by omega) | exact nv_st (q3 (by omega)) hI (by omega) (by omega))) (by first | omega | rfl | (rw [show (dt 79 15).toNat = (dt 79 13).toNat by first | assumption | omega]; exact h_p4) | exact h_p3 | exact q0 | exact q5 | exact q5 | (rw [show (dt 79 13).toNat = (dt 79 15).toNat by first | assumption | omega]) | exact RN_st q2 (by omega) (by omega) (pDt hI (by omega)) | (intro z; first | exact nv_z (by omega) (by omega) | exact nv_st (q3 (by omega)) hI (by omega) (by omega))) (by first | omega | rfl | (rw [show (dt 79 15).toNat = (dt 79 13).toNat by first | assumption | omega]; exact h_p4) | exact h_p3 | exact q0 | exact q5 | exact q5 | (rw [show (dt 79 13).toNat = (dt 79 15).toNat by first | assumption | omega]) | exact RN_st q2 (by omega) (by omega) (pDt hI (by omega)) | (intro z; first | exact nv_z (by omega) (by omega) | exact nv_st (q3 (by omega)) hI (by omega) (by omega))) (by first | omega | rfl | (rw [show (dt 79 15).toNat = (dt 79 13).toNat by first | assumption | omega]; exact h_p4) | exact h_p3 | exact q0 | exact q5 | exact q5 | (rw [show (dt 79 13).toNat = (dt 79 15).toNat by first | assumption | omega]) | exact RN_st q2 (by omega) (by omega) (pDt hI (by omega)) | (intro z; first | exact nv_z (by omega) (by omega) | exact nv_st (q3 (by omega)) hI (by omega) (by omega))) (by first | omega | rfl | (rw [show (dt 79 15).toNat = (dt 79 13).toNat by first | assumption | omega]; exact h_p4) | exact h_p3 | exact q0 | exact q5 | exact q5 | (rw [show (dt 79 13).toNat = (dt 79 15).toNat by first | assumption | omega]) | exact RN_st q2 (by omega) (by omega) (pDt hI (by omega)) | (intro z; first | exact nv_z (by omega) (by omega) | exact nv_st (q3 (by omega)) hI (by omega) (by omega))) (by first | omega | rfl | (rw [show (dt 79 15).toNat = (dt 79 13).toNat by first | assumption | omega]; exact h_p4) | exact h_p3 | exact q0 | exact q5 | exact q5 | (rw [show (dt 79 13).toNat = (dt 79 15).toNat by first | assumption | omega]) | exact RN_st q2 (by omega) (by omega) (pDt hI (by omega)) | (intro z; first | exact nv_z (by omega) (by omega) | exact nv_st (q3 (by omega)) hI (by omega) (by omega))) (by first | omega | rfl | (rw [show (dt 79 15).toNat = (dt 79 13).toNat by first | assumption | omega]; exact h_p4) | exact h_p3 | exact q0 | exact q5 | exact q5 | (rw [show (dt 79 13).toNat = (dt 79 15).toNat by first | assumption | omega]) | exact RN_st q2 (by omega) (by omega) (pDt hI (by omega)) | (intro z; first | exact nv_z (by omega) (by omega) | exact nv_st (q3 (by omega)) hI (by omega) (by omega))) (by first | omega | rfl | (rw [show (dt 79 15).toNat = (dt 79 13).toNat by first | assumption | omega]; exact h_p4) | exact h_p3 | exact q0 | exact q5 | exact q5 | (rw [show (dt 79 13).toNat = (dt 79 15).toNat by first | assumption | omega]) | exact RN_st q2 (by omega) (by omega) (pDt hI (by omega)) | (intro z; first | exact nv_z (by omega) (by omega) | exact nv_st (q3 (by omega)) hI (by omega) (by omega))) (by first | omega | rfl | (rw [show (dt 79 15).toNat = (dt 79 13).toNat by first | assumption | omega]; exact h_p4) | exact h_p3 | exact q0 | exact q5 | exact q5 | (rw [show (dt 79 13).toNat = (dt 79 15).toNat by first | assumption | omega]) | exact RN_st q2 (by omega) (by omega) (pDt hI (by omega)) | (intro z; first | exact nv_z (by omega) (by omega) | exact nv_st (q3 (by omega)) hI (by omega) (by omega))) (by first | omega | rfl | (rw [show (dt 79 15).toNat = (dt 79 13).toNat by first | assumption | omega]; exact h_p4) | exact h_p3 | exact q0 | exact q5 | exact q5 | (rw [show (dt 79 13).toNat = (dt 79 15).toNat by first | assumption | omega]) | exact RN_st q2 (by omega) (by omega) (pDt hI (by omega)) | (intro z; first | exact nv_z (by omega) (by omega) | exact nv_st (q3 (by omega)) hI (by omega) (by omega))) (by first | omega | rfl | (rw [show (dt 79 15).toNat = (dt 79 13).toNat by first | assumption | omega]; exact h_p4) | exact h_p3 | exact q0 | exact q5 | exact q5 | (rw [show (dt 79 13).toNat = (dt 79 15).toNat by first | assumption | omega]) | exact RN_st q2 (by omega) (by omega) (pDt hI (by omega)) | (intro z; first | exact nv_z (by omega) (by omega) | exact nv_st (q3 (by omega)) hI (by omega) (by omega))) (by first | omega | rfl | (rw [show (dt 79 15).toNat = (dt 79 13).toNat by first | assumption | omega]; exact h_p4) | exact h_p3 | exact q0 | exact q5 | exact q5 | (rw [show (dt 79 13).toNat = (dt 79 15).toNat by first | assumption | omega]) | exact RN_st q2 (by omega) (by omega) (pDt hI (by omega)) | (intro z; first | exact nv_z (by omega) (by omega) | exact nv_st (q3 (by omega)) hI (by omega) (by omega))) (by first | omega | rfl | (rw [show (dt 79 15).toNat = (dt 79 13).toNat by first | assumption | omega]; exact h_p4) | exact h_p3 | exact q0 | exact q5 | exact q5 | (rw [show (dt 79 13).toNat = (dt 79 15).toNat by first | assumption | omega]) | exact RN_st q2 (by omega) (by omega) (pDt hI (by omega)) | (intro z; first | exact nv_z (by omega) (by omega) | exact nv_st (q3 (by omega)) hI (by omega) (by omega))) (by first | omega | rfl | (rw [show (dt 79 15).toNat = (dt 79 13).toNat by first | assumption | omega]; exact h_p4) | exact h_p3 | exact q0 | exact q5 | exact q5 | (rw [show (dt 79 13).toNat = (dt 79 15).toNat by first | assumption | omega]) | exact RN_st q2 (by omega) (by omega) (pDt hI (by omega)) | (intro z; first | exact nv_z (by omega) (by omega) | exact nv_st (q3 (by omega)) hI (by omega) (by omega))) (by first | omega | rfl | (rw [show (dt 79 15).toNat = (dt 79 13).toNat by first | assumption | omega]; exact h_p4) | exact h_p3 | exact q0 | exact q5 | exact q5 | (rw [show (dt 79 13).toNat = (dt 79 15).toNat by first | assumption | omega]) | exact RN_st q2 (by omega) (by omega) (pDt hI (by omega)) | (intro z; first | exact nv_z (by omega) (by omega) | exact nv_st (q3 (by omega)) hI (by omega) (by omega))) (by first | omega | rfl | (rw [show (dt 79 15).toNat = (dt 79 13).toNat by first | assumption | omega]; exact h_p4) | exact h_p3 | exact q0 | exact q5 | exact q5 | (rw [show (dt 79 13).toNat = (dt 79 15).toNat by first | assumption | omega]) | exact RN_st q2 (by omega) (by omega) (pDt hI (by omega)) | (intro z; first | exact nv_z (by omega) (by omega) | exact nv_st (q3 (by omega)) hI (by omega) (by omega))) (by first | omega | rfl | (rw [show (dt 79 15).toNat = (dt 79 13).toNat by first | assumption | omega]; exact h_p4) | exact h_p3 | exact q0 | exact q5 | exact q5 | (rw [show (dt 79 13).toNat = (dt 79 15).toNat by first | assumption | omega]) | exact RN_st q2 (by omega) (by omega) (pDt hI (by omega)) | (intro z; first | exact nv_z (by omega) (by omega) | exact nv_st (q3 (by omega)) hI (by omega) (by omega))) (by omega)) ⟨.inl rfl, .inl rfl, .inl rfl, trivial⟩
          · skip
            have r243 : 0 ≤ dt98 79 16 ∧ dt98 79 16 ≤ 9999 := InvC_get hI99 79 16 rfl rfl
            refine go_toq PM159 (k := 8) (pc' := 180) (L' := [some (.inr (.inr (some 79))), none, none]) (st' := [.inl (dt98 79 13), .inr (.inr (some 79)), .inl (10 * (dt98 79 16)), .inr (.inr (some 79))]) (w' := (SH, dt98)) rfl ?_
            refine go_callq PM159 PM153 (Q' := _) rfl rfl rfl rfl (sp_X6_see_f L xs sio (d + 5) dt98 hI99  (dt98 79 13) (by first | exact bnd r123 (by decide) (by decide) | exact bndd r123 c229 (by decide) (by decide) | exact ⟨by omega, by omega⟩) ) ?_
            rintro _ _ ⟨rfl, h244⟩
            refine ⟨rfl, ?_⟩
            rcases h244 with ⟨v_h244, rfl, h244r, h244⟩ | ⟨rfl, h244⟩
            · skip
              obtain ⟨h244_0, h244_1⟩ := h244
              exfalso; omega
            · skip
              refine go_toq PM159 (k := 3) (pc' := 187) (L' := [some (.inr (.inr (some 79))), none, none]) (st' := [.inl (((10 * (dt98 79 16)) + (-1)) - 48), .inr (.inr (some 79))]) (w' := (SH, dt98)) rfl ?_
              have hI245 : InvC (u2 dt98 79 16 (((10 * (dt98 79 16)) + (-1)) - 48)) := InvC_u2 hI99 (lo := 0) (hi := 9999) rfl rfl rfl (by omega) (by omega)
              have hF246 : Fr [79] dt (u2 dt98 79 16 (((10 * (dt98 79 16)) + (-1)) - 48)) := Fr_u2 hF100 (by decide)
              have w247 : (u2 dt98 79 16 (((10 * (dt98 79 16)) + (-1)) - 48)) 79 13 = dt98 79 13 := rfl
              have w248 : (u2 dt98 79 16 (((10 * (dt98 79 16)) + (-1)) - 48)) 79 14 = dt98 79 14 := rfl
              have w249 : (u2 dt98 79 16 (((10 * (dt98 79 16)) + (-1)) - 48)) 79 15 = dt98 79 15 := rfl
              have w250 : (u2 dt98 79 16 (((10 * (dt98 79 16)) + (-1)) - 48)) 79 16 = ((10 * (dt98 79 16)) + (-1)) - 48 := rfl
              have w251 : (u2 dt98 79 16 (((10 * (dt98 79 16)) + (-1)) - 48)) 79 2 = dt98 79 2 := rfl
              have w252 : (u2 dt98 79 16 (((10 * (dt98 79 16)) + (-1)) - 48)) 79 9 = dt98 79 9 := rfl
              have w253 : (u2 dt98 79 16 (((10 * (dt98 79 16)) + (-1)) - 48)) 79 10 = dt98 79 10 := rfl
              have w254 : (u2 dt98 79 16 (((10 * (dt98 79 16)) + (-1)) - 48)) 79 11 = dt98 79 11 := rfl
              have w255 : (u2 dt98 79 16 (((10 * (dt98 79 16)) + (-1)) - 48)) 79 12 = dt98 79 12 := rfl
              have w256 : (u2 dt98 79 16 (((10 * (dt98 79 16)) + (-1)) - 48)) 79 17 = dt98 79 17 := rfl
              have w257 : (u2 dt98 79 16 (((10 * (dt98 79 16)) + (-1)) - 48)) 79 20 = dt98 79 20 := rfl
              refine go_smpq PM159 (L' := [some (.inr (.inr (some 79))), none, none]) (st' := []) (w' := (SH, (u2 dt98 79 16 (((10 * (dt98 79 16)) + (-1)) - 48)))) rfl rfl (s_pf rfl rfl rfl rfl ⟨by omega, by omega⟩) ?_
              refine go_toq PM159 (k := 5) (pc' := 197) (L' := [some (.inr (.inr (some 79))), none, none]) (st' := [.inl ((dt98 79 13) + 1), .inr (.inr (some 79))]) (w' := (SH, (u2 dt98 79 16 (((10 * (dt98 79 16)) + (-1)) - 48)))) rfl ?_
              have hI258 : InvC (u2 (u2 dt98 79 16 (((10 * (dt98 79 16)) + (-1)) - 48)) 79 13 ((dt98 79 13) + 1)) := InvC_u2 hI245 (lo := 0) (hi := 501) rfl rfl rfl (by omega) (by omega)
              have hF259 : Fr [79] dt (u2 (u2 dt98 79 16 (((10 * (dt98 79 16)) + (-1)) - 48)) 79 13 ((dt98 79 13) + 1)) := Fr_u2 hF246 (by decide)
              have w260 : (u2 (u2 dt98 79 16 (((10 * (dt98 79 16)) + (-1)) - 48)) 79 13 ((dt98 79 13) + 1)) 79 13 = (dt98 79 13) + 1 := rfl
              have w261 : (u2 (u2 dt98 79 16 (((10 * (dt98 79 16)) + (-1)) - 48)) 79 13 ((dt98 79 13) + 1)) 79 14 = dt98 79 14 := rfl
              have w262 : (u2 (u2 dt98 79 16 (((10 * (dt98 79 16)) + (-1)) - 48)) 79 13 ((dt98 79 13) + 1)) 79 15 = dt98 79 15 := rfl
              have w263 : (u2 (u2 dt98 79 16 (((10 * (dt98 79 16)) + (-1)) - 48)) 79 13 ((dt98 79 13) + 1)) 79 16 = ((10 * (dt98 79 16)) + (-1)) - 48 := rfl
              have w264 : (u2 (u2 dt98 79 16 (((10 * (dt98 79 16)) + (-1)) - 48)) 79 13 ((dt98 79 13) + 1)) 79 2 = dt98 79 2 := rfl
              have w265 : (u2 (u2 dt98 79 16 (((10 * (dt98 79 16)) + (-1)) - 48)) 79 13 ((dt98 79 13) + 1)) 79 9 = dt98 79 9 := rfl
              have w266 : (u2 (u2 dt98 79 16 (((10 * (dt98 79 16)) + (-1)) - 48)) 79 13 ((dt98 79 13) + 1)) 79 10 = dt98 79 10 := rfl
              have w267 : (u2 (u2 dt98 79 16 (((10 * (dt98 79 16)) + (-1)) - 48)) 79 13 ((dt98 79 13) + 1)) 79 11 = dt98 79 11 := rfl
              have w268 : (u2 (u2 dt98 79 16 (((10 * (dt98 79 16)) + (-1)) - 48)) 79 13 ((dt98 79 13) + 1)) 79 12 = dt98 79 12 := rfl
              have w269 : (u2 (u2 dt98 79 16 (((10 * (dt98 79 16)) + (-1)) - 48)) 79 13 ((dt98 79 13) + 1)) 79 17 = dt98 79 17 := rfl
              have w270 : (u2 (u2 dt98 79 16 (((10 * (dt98 79 16)) + (-1)) - 48)) 79 13 ((dt98 79 13) + 1)) 79 20 = dt98 79 20 := rfl
              clear w247 w248 w249 w250 w251 w252 w253 w254 w255 w256 w257
              refine go_smpq PM159 (L' := [some (.inr (.inr (some 79))), none, none]) (st' := []) (w' := (SH, (u2 (u2 dt98 79 16 (((10 * (dt98 79 16)) + (-1)) - 48)) 79 13 ((dt98 79 13) + 1)))) rfl rfl (s_pf rfl rfl rfl rfl (by first | exact bndp r123 (by decide) (by decide) | exact ⟨by omega, by omega⟩)) ?_
              refine go_toq PM159 (k := 1) (pc' := 140) (L' := [some (.inr (.inr (some 79))), none, none]) (st' := []) (w' := (SH, (u2 (u2 dt98 79 16 (((10 * (dt98 79 16)) + (-1)) - 48)) 79 13 ((dt98 79 13) + 1)))) rfl ?_
              exact GO.le (ih_loop122 (u2 (u2 dt98 79 16 (((10 * (dt98 79 16)) + (-1)) - 48)) 79 13 ((dt98 79 13) + 1)) hI258 hF259 (by first | omega | rfl | (rw [show (dt 79 15).toNat = (dt 79 13).toNat by first | assumption | omega]; exact h_p4) | exact h_p3 | exact q0 | exact q5 | exact q5 | (rw [show (dt 79 13).toNat = (dt 79 15).toNat by first | assumption | omega]) | exact RN_st q2 (by omega) (by omega) (pDt hI (by omega)) | (intro z; first | exact nv_z (by omega) (by omega) | exact nv_st (q3 (by omega)) hI (by omega) (by omega))) (by first | omega | rfl | (rw [show (dt 79 15).toNat = (dt 79 13).toNat by first | assumption | omega]; exact h_p4) | exact h_p3 | exact q0 | exact q5 | exact q5 | (rw [show (dt 79 13).toNat = (dt 79 15).toNat by first | assumption | omega]) | exact RN_st q2 (by omega) (by omega) (pDt hI (by omega)) | (intro z; first | exact nv_z (by omega) (by omega) | exact nv_st (q3 (by omega)) hI (by omega) (by omega))) (by first | omega | rfl | (rw [show (dt 79 15).toNat = (dt 79 13).toNat by first | assumption | omega]; exact h_p4) | exact h_p3 | exact q0 | exact q5 | exact q5 | (rw [show (dt 79 13).toNat = (dt 79 15).toNat by first | assumption | omega]) | exact RN_st q2 (by omega) (by omega) (pDt hI (by omega)) | (intro z; first | exact nv_z (by omega) (by omega) | exact nv_st (q3 (by omega)) hI (by omega) (by omega))) (by first | omega | rfl | (rw [show (dt 79 15).toNat = (dt 79 13).toNat by first | assumption | omega]; exact h_p4) | exact h_p3 | exact q0 | exact q5 | exact q5 | (rw [show (dt 79 13).toNat = (dt 79 15).toNat by first | assumption | omega]) | exact RN_st q2 (by omega) (by omega) (pDt hI (by omega)) | (intro z; first | exact nv_z (by omega) (by omega) | exact nv_st (q3 (by omega)) hI (by omega) (by omega))) (by first | omega | rfl | (rw [show (dt 79 15).toNat = (dt 79 13).toNat by first | assumption | omega]; exact h_p4) | exact h_p3 | exact q0 | exact q5 | exact q5 | (rw [show (dt 79 13).toNat = (dt 79 15).toNat by first | assumption | omega]) | exact RN_st q2 (by omega) (by omega) (pDt hI (by omega)) | (intro z; first | exact nv_z (by omega) (by omega) | exact nv_st (q3 (by omega)) hI (by omega) (by omega))) (by first | omega | rfl | (rw [show (dt 79 15).toNat = (dt 79 13).toNat by first | assumption | omega]; exact h_p4) | exact h_p3 | exact q0 | exact q5 | exact q5 | (rw [show (dt 79 13).toNat = (dt 79 15).toNat by first | assumption | omega]) | exact RN_st q2 (by omega) (by omega) (pDt hI (by omega)) | (intro z; first | exact nv_z (by omega) (by omega) | exact nv_st (q3 (by omega)) hI (by omega) (by omega))) (by first | omega | rfl | (rw [show (dt 79 15).toNat = (dt 79 13).toNat by first | assumption | omega]; exact h_p4) | exact h_p3 | exact q0 | exact q5 | exact q5 | (rw [show (dt 79 13).toNat = (dt 79 15).toNat by first | assumption | omega]) | exact RN_st q2 (by omega) (by omega) (pDt hI (by omega)) | (intro z; first | exact nv_z (by omega) (by omega) | exact nv_st (q3 (by omega)) hI (by omega) (by omega))) (by first | omega | rfl | (rw [show (dt 79 15).toNat = (dt 79 13).toNat by first | assumption | omega]; exact h_p4) | exact h_p3 | exact q0 | exact q5 | exact q5 | (rw [show (dt 79 13).toNat = (dt 79 15).toNat by first | assumption | omega]) | exact RN_st q2 (by omega) (by omega) (pDt hI (by omega)) | (intro z; first | exact nv_z (by omega) (by omega) | exact nv_st (q3 (by omega)) hI (by omega) (by omega))) (by first | omega | rfl | (rw [show (dt 79 15).toNat = (dt 79 13).toNat by first | assumption | omega]; exact h_p4) | exact h_p3 | exact q0 | exact q5 | exact q5 | (rw [show (dt 79 13).toNat = (dt 79 15).toNat by first | assumption | omega]) | exact RN_st q2 (by omega) (by omega) (pDt hI (by omega)) | (intro z; first | exact nv_z (by omega) (by omega) | exact nv_st (q3 (by omega)) hI (by omega) (by omega))) (by first | omega | rfl | (rw [show (dt 79 15).toNat = (dt 79 13).toNat by first | assumption | omega]; exact h_p4) | exact h_p3 | exact q0 | exact q5 | exact q5 | (rw [show (dt 79 13).toNat = (dt 79 15).toNat by first | assumption | omega]) | exact RN_st q2 (by omega) (by omega) (pDt hI (by omega)) | (intro z; first | exact nv_z (by omega) (by omega) | exact nv_st (q3 (by omega)) hI (by omega) (by omega))) (by first | omega | rfl | (rw [show (dt 79 15).toNat = (dt 79 13).toNat by first | assumption | omega]; exact h_p4) | exact h_p3 | exact q0 | exact q5 | exact q5 | (rw [show (dt 79 13).toNat = (dt 79 15).toNat by first | assumption | omega]) | exact RN_st q2 (by omega) (by omega) (pDt hI (by omega)) | (intro z; first | exact nv_z (by omega) (by omega) | exact nv_st (q3 (by omega)) hI (by omega) (by omega))) (by first | omega | rfl | (rw [show (dt 79 15).toNat = (dt 79 13).toNat by first | assumption | omega]; exact h_p4) | exact h_p3 | exact q0 | exact q5 | exact q5 | (rw [show (dt 79 13).toNat = (dt 79 15).toNat by first | assumption | omega]) | exact RN_st q2 (by omega) (by omega) (pDt hI (by omega)) | (intro z; first | exact nv_z (by omega) (by omega) | exact nv_st (q3 (by omega)) hI (by omega) (by omega))) (by first | omega | rfl | (rw [show (dt 79 15).toNat = (dt 79 13).toNat by first | assumption | omega]; exact h_p4) | exact h_p3 | exact q0 | exact q5 | exact q5 | (rw [show (dt 79 13).toNat = (dt 79 15).toNat by first | assumption | omega]) | exact RN_st q2 (by omega) (by omega) (pDt hI (by omega)) | (intro z; first | exact nv_z (by omega) (by omega) | exact nv_st (q3 (by omega)) hI (by omega) (by omega))) (by first | omega | rfl | (rw [show (dt 79 15).toNat = (dt 79 13).toNat by first | assumption | omega]; exact h_p4) | exact h_p3 | exact q0 | exact q5 | exact q5 | (rw [show (dt 79 13).toNat = (dt 79 15).toNat by first | assumption | omega]) | exact RN_st q2 (by omega) (by omega) (pDt hI (by omega)) | (intro z; first | exact nv_z (by omega) (by omega) | exact nv_st (q3 (by omega)) hI (by omega) (by omega))) (by first | omega | rfl | (rw [show (dt 79 15).toNat = (dt 79 13).toNat by first | assumption | omega]; exact h_p4) | exact h_p3 | exact q0 | exact q5 | exact q5 | (rw [show (dt 79 13).toNat = (dt 79 15).toNat by first | assumption | omega]) | exact RN_st q2 (by omega) (by omega) (pDt hI (by omega)) | (intro z; first | exact nv_z (by omega) (by omega) | exact nv_st (q3 (by omega)) hI (by omega) (by omega))) (by first | omega | rfl | (rw [show (dt 79 15).toNat = (dt 79 13).toNat by first | assumption | omega]; exact h_p4) | exact h_p3 | exact q0 | exact q5 | exact q5 | (rw [show (dt 79 13).toNat = (dt 79 15).toNat by first | assumption | omega]) | exact RN_st q2 (by omega) (by omega) (pDt hI (by omega)) | (intro z; first | exact nv_z (by omega) (by omega) | exact nv_st (q3 (by omega)) hI (by omega) (by omega))) (by first | omega | rfl | (rw [show (dt 79 15).toNat = (dt 79 13).toNat by first | assumption | omega]; exact h_p4) | exact h_p3 | exact q0 | exact q5 | exact q5 | (rw [show (dt 79 13).toNat = (dt 79 15).toNat by first | assumption | omega]) | exact RN_st q2 (by omega) (by omega) (pDt hI (by omega)) | (intro z; first | exact nv_z (by omega) (by omega) | exact nv_st (q3 (by omega)) hI (by omega) (by omega))) (by first | omega | rfl | (rw [show (dt 79 15).toNat = (dt 79 13).toNat by first | assumption | omega]; exact h_p4) | exact h_p3 | exact q0 | exact q5 | exact q5 | (rw [show (dt 79 13).toNat = (dt 79 15).toNat by first | assumption | omega]) | exact RN_st q2 (by omega) (by omega) (pDt hI (by omega)) | (intro z; first | exact nv_z (by omega) (by omega) | exact nv_st (q3 (by omega)) hI (by omega) (by omega))) (by first | omega | rfl | (rw [show (dt 79 15).toNat = (dt 79 13).toNat by first | assumption | omega]; exact h_p4) | exact h_p3 | exact q0 | exact q5 | exact q5 | (rw [show (dt 79 13).toNat = (dt 79 15).toNat by first | assumption | omega]) | exact RN_st q2 (by omega) (by omega) (pDt hI (by omega)) | (intro z; first | exact nv_z (by omega) (by omega) | exact nv_st (q3 (by omega)) hI (by omega) (by omega))) (by first | omega | rfl | (rw [show (dt 79 15).toNat = (dt 79 13).toNat by first | assumption | omega]; exact h_p4) | exact h_p3 | exact q0 | exact q5 | exact q5 | (rw [show (dt 79 13).toNat = (dt 79 15).toNat by first | assumption | omega]) | exact RN_st q2 (by omega) (by omega) (pDt hI (by omega)) | (intro z; first | exact nv_z (by omega) (by omega) | exact nv_st (q3 (by omega)) hI (by omega) (by omega))) (by first | omega | rfl | (rw [show (dt 79 15).toNat = (dt 79 13).toNat by first | assumption | omega]; exact h_p4) | exact h_p3 | exact q0 | exact q5 | exact q5 | (rw [show (dt 79 13).toNat = (dt 79 15).toNat by first | assumption | omega]) | exact RN_st q2 (by omega) (by omega) (pDt hI (by omega)) | (intro z; first | exact nv_z (by omega) (by omega) | exact nv_st (q3 (by omega)) hI (by omega) (by omega))) (by omega)) ⟨.inl rfl, .inl rfl, .inl rfl, trivial⟩
  exact GO.le (loop122 _ dt hI hF (by first | omega | rfl | (rw [show (dt 79 15).toNat = (dt 79 13).toNat by first | assumption | omega]; exact h_p4) | exact h_p3 | exact q0 | exact hI | exact q5 | (rw [show (dt 79 13).toNat = (dt 79 15).toNat by first | assumption | omega]) | exact RN_st q2 (by omega) (by omega) (pDt hI (by omega)) | (intro z; first | exact nv_z (by omega) (by omega) | exact nv_st (q3 (by omega)) hI (by omega) (by omega))) (by first | omega | rfl | (rw [show (dt 79 15).toNat = (dt 79 13).toNat by first | assumption | omega]; exact h_p4) | exact h_p3 | exact q0 | exact hI | exact q5 | (rw [show (dt 79 13).toNat = (dt 79 15).toNat by first | assumption | omega]) | exact RN_st q2 (by omega) (by omega) (pDt hI (by omega)) | (intro z; first | exact nv_z (by omega) (by omega) | exact nv_st (q3 (by omega)) hI (by omega) (by omega))) (by first | omega | rfl | (rw [show (dt 79 15).toNat = (dt 79 13).toNat by first | assumption | omega]; exact h_p4) | exact h_p3 | exact q0 | exact hI | exact q5 | (rw [show (dt 79 13).toNat = (dt 79 15).toNat by first | assumption | omega]) | exact RN_st q2 (by omega) (by omega) (pDt hI (by omega)) | (intro z; first | exact nv_z (by omega) (by omega) | exact nv_st (q3 (by omega)) hI (by omega) (by omega))) (by first | omega | rfl | (rw [show (dt 79 15).toNat = (dt 79 13).toNat by first | assumption | omega]; exact h_p4) | exact h_p3 | exact q0 | exact hI | exact q5 | (rw [show (dt 79 13).toNat = (dt 79 15).toNat by first | assumption | omega]) | exact RN_st q2 (by omega) (by omega) (pDt hI (by omega)) | (intro z; first | exact nv_z (by omega) (by omega) | exact nv_st (q3 (by omega)) hI (by omega) (by omega))) (by first | omega | rfl | (rw [show (dt 79 15).toNat = (dt 79 13).toNat by first | assumption | omega]; exact h_p4) | exact h_p3 | exact q0 | exact hI | exact q5 | (rw [show (dt 79 13).toNat = (dt 79 15).toNat by first | assumption | omega]) | exact RN_st q2 (by omega) (by omega) (pDt hI (by omega)) | (intro z; first | exact nv_z (by omega) (by omega) | exact nv_st (q3 (by omega)) hI (by omega) (by omega))) (by first | omega | rfl | (rw [show (dt 79 15).toNat = (dt 79 13).toNat by first | assumption | omega]; exact h_p4) | exact h_p3 | exact q0 | exact hI | exact q5 | (rw [show (dt 79 13).toNat = (dt 79 15).toNat by first | assumption | omega]) | exact RN_st q2 (by omega) (by omega) (pDt hI (by omega)) | (intro z; first | exact nv_z (by omega) (by omega) | exact nv_st (q3 (by omega)) hI (by omega) (by omega))) (by first | omega | rfl | (rw [show (dt 79 15).toNat = (dt 79 13).toNat by first | assumption | omega]; exact h_p4) | exact h_p3 | exact q0 | exact hI | exact q5 | (rw [show (dt 79 13).toNat = (dt 79 15).toNat by first | assumption | omega]) | exact RN_st q2 (by omega) (by omega) (pDt hI (by omega)) | (intro z; first | exact nv_z (by omega) (by omega) | exact nv_st (q3 (by omega)) hI (by omega) (by omega))) (by first | omega | rfl | (rw [show (dt 79 15).toNat = (dt 79 13).toNat by first | assumption | omega]; exact h_p4) | exact h_p3 | exact q0 | exact hI | exact q5 | (rw [show (dt 79 13).toNat = (dt 79 15).toNat by first | assumption | omega]) | exact RN_st q2 (by omega) (by omega) (pDt hI (by omega)) | (intro z; first | exact nv_z (by omega) (by omega) | exact nv_st (q3 (by omega)) hI (by omega) (by omega))) (by first | omega | rfl | (rw [show (dt 79 15).toNat = (dt 79 13).toNat by first | assumption | omega]; exact h_p4) | exact h_p3 | exact q0 | exact hI | exact q5 | (rw [show (dt 79 13).toNat = (dt 79 15).toNat by first | assumption | omega]) | exact RN_st q2 (by omega) (by omega) (pDt hI (by omega)) | (intro z; first | exact nv_z (by omega) (by omega) | exact nv_st (q3 (by omega)) hI (by omega) (by omega))) (by first | omega | rfl | (rw [show (dt 79 15).toNat = (dt 79 13).toNat by first | assumption | omega]; exact h_p4) | exact h_p3 | exact q0 | exact hI | exact q5 | (rw [show (dt 79 13).toNat = (dt 79 15).toNat by first | assumption | omega]) | exact RN_st q2 (by omega) (by omega) (pDt hI (by omega)) | (intro z; first | exact nv_z (by omega) (by omega) | exact nv_st (q3 (by omega)) hI (by omega) (by omega))) (by first | omega | rfl | (rw [show (dt 79 15).toNat = (dt 79 13).toNat by first | assumption | omega]; exact h_p4) | exact h_p3 | exact q0 | exact hI | exact q5 | (rw [show (dt 79 13).toNat = (dt 79 15).toNat by first | assumption | omega]) | exact RN_st q2 (by omega) (by omega) (pDt hI (by omega)) | (intro z; first | exact nv_z (by omega) (by omega) | exact nv_st (q3 (by omega)) hI (by omega) (by omega))) (by first | omega | rfl | (rw [show (dt 79 15).toNat = (dt 79 13).toNat by first | assumption | omega]; exact h_p4) | exact h_p3 | exact q0 | exact hI | exact q5 | (rw [show (dt 79 13).toNat = (dt 79 15).toNat by first | assumption | omega]) | exact RN_st q2 (by omega) (by omega) (pDt hI (by omega)) | (intro z; first | exact nv_z (by omega) (by omega) | exact nv_st (q3 (by omega)) hI (by omega) (by omega))) (by first | omega | rfl | (rw [show (dt 79 15).toNat = (dt 79 13).toNat by first | assumption | omega]; exact h_p4) | exact h_p3 | exact q0 | exact hI | exact q5 | (rw [show (dt 79 13).toNat = (dt 79 15).toNat by first | assumption | omega]) | exact RN_st q2 (by omega) (by omega) (pDt hI (by omega)) | (intro z; first | exact nv_z (by omega) (by omega) | exact nv_st (q3 (by omega)) hI (by omega) (by omega))) (by first | omega | rfl | (rw [show (dt 79 15).toNat = (dt 79 13).toNat by first | assumption | omega]; exact h_p4) | exact h_p3 | exact q0 | exact hI | exact q5 | (rw [show (dt 79 13).toNat = (dt 79 15).toNat by first | assumption | omega]) | exact RN_st q2 (by omega) (by omega) (pDt hI (by omega)) | (intro z; first | exact nv_z (by omega) (by omega) | exact nv_st (q3 (by omega)) hI (by omega) (by omega))) (by first | omega | rfl | (rw [show (dt 79 15).toNat = (dt 79 13).toNat by first | assumption | omega]; exact h_p4) | exact h_p3 | exact q0 | exact hI | exact q5 | (rw [show (dt 79 13).toNat = (dt 79 15).toNat by first | assumption | omega]) | exact RN_st q2 (by omega) (by omega) (pDt hI (by omega)) | (intro z; first | exact nv_z (by omega) (by omega) | exact nv_st (q3 (by omega)) hI (by omega) (by omega))) (by first | omega | rfl | (rw [show (dt 79 15).toNat = (dt 79 13).toNat by first | assumption | omega]; exact h_p4) | exact h_p3 | exact q0 | exact hI | exact q5 | (rw [show (dt 79 13).toNat = (dt 79 15).toNat by first | assumption | omega]) | exact RN_st q2 (by omega) (by omega) (pDt hI (by omega)) | (intro z; first | exact nv_z (by omega) (by omega) | exact nv_st (q3 (by omega)) hI (by omega) (by omega))) (by first | omega | rfl | (rw [show (dt 79 15).toNat = (dt 79 13).toNat by first | assumption | omega]; exact h_p4) | exact h_p3 | exact q0 | exact hI | exact q5 | (rw [show (dt 79 13).toNat = (dt 79 15).toNat by first | assumption | omega]) | exact RN_st q2 (by omega) (by omega) (pDt hI (by omega)) | (intro z; first | exact nv_z (by omega) (by omega) | exact nv_st (q3 (by omega)) hI (by omega) (by omega))) (by first | omega | rfl | (rw [show (dt 79 15).toNat = (dt 79 13).toNat by first | assumption | omega]; exact h_p4) | exact h_p3 | exact q0 | exact hI | exact q5 | (rw [show (dt 79 13).toNat = (dt 79 15).toNat by first | assumption | omega]) | exact RN_st q2 (by omega) (by omega) (pDt hI (by omega)) | (intro z; first | exact nv_z (by omega) (by omega) | exact nv_st (q3 (by omega)) hI (by omega) (by omega))) (by first | omega | rfl | (rw [show (dt 79 15).toNat = (dt 79 13).toNat by first | assumption | omega]; exact h_p4) | exact h_p3 | exact q0 | exact hI | exact q5 | (rw [show (dt 79 13).toNat = (dt 79 15).toNat by first | assumption | omega]) | exact RN_st q2 (by omega) (by omega) (pDt hI (by omega)) | (intro z; first | exact nv_z (by omega) (by omega) | exact nv_st (q3 (by omega)) hI (by omega) (by omega))) (by first | omega | rfl | (rw [show (dt 79 15).toNat = (dt 79 13).toNat by first | assumption | omega]; exact h_p4) | exact h_p3 | exact q0 | exact hI | exact q5 | (rw [show (dt 79 13).toNat = (dt 79 15).toNat by first | assumption | omega]) | exact RN_st q2 (by omega) (by omega) (pDt hI (by omega)) | (intro z; first | exact nv_z (by omega) (by omega) | exact nv_st (q3 (by omega)) hI (by omega) (by omega))) (by first | omega | rfl | (rw [show (dt 79 15).toNat = (dt 79 13).toNat by first | assumption | omega]; exact h_p4) | exact h_p3 | exact q0 | exact hI | exact q5 | (rw [show (dt 79 13).toNat = (dt 79 15).toNat by first | assumption | omega]) | exact RN_st q2 (by omega) (by omega) (pDt hI (by omega)) | (intro z; first | exact nv_z (by omega) (by omega) | exact nv_st (q3 (by omega)) hI (by omega) (by omega))) (Nat.lt_succ_self _)) ⟨.inl rfl, .inr ⟨rfl, trivial⟩, .inl rfl, trivial⟩
set_option maxHeartbeats 8000000 in
set_option maxRecDepth 20000 in
theorem sp_X6_next0_a0 (L : Nat) (xs : Nat → Int32) (sio : Option Nat) (d : Nat) (dt : Nat → Nat → Int) (hI : InvC dt)   (h_p0 : dt 79 13 ≤ dt 79 12) (h_p1 : dt 79 9 = 0) (h_p2 : RN pB (mB (dt 85) (dt 79 12)) (dt 79 12).toNat (dt 79 13).toNat = (dt 79 13).toNat) : GO (am_XX L xs sio) (d + 6) 159 39 [some (.inr (.inr (some 79))), none, none] [] (SH, dt) (fun r w2 => ∃ dt2 : Nat → Nat → Int, w2 = (SH, dt2) ∧ InvC dt2 ∧ Fr [79] dt dt2 ∧ ((r = none ∧ (CUP 0 (mB (dt 85) (dt 79 12)) (dt 79 12).toNat dt2 (RN pB (mB (dt 85) (dt 79 12)) (dt 79 12).toNat (dt 79 13).toNat)) ∧ (dt 79 13 ≤ dt2 79 15) ∧ (dt2 79 2 = dt 79 2) ∧ (dt2 79 9 = dt 79 9) ∧ (dt2 79 10 = dt 79 10) ∧ (dt2 79 11 = dt 79 11) ∧ (dt2 79 12 = dt 79 12) ∧ (dt2 79 17 = dt 79 17) ∧ (dt2 79 20 = dt 79 20)))) := by
  have hF : Fr [79] dt dt := Fr_refl
  have r1 : 0 ≤ dt 79 13 ∧ dt 79 13 ≤ 501 := InvC_get hI 79 13 rfl rfl
  have r2 : 0 ≤ dt 79 12 ∧ dt 79 12 ≤ 500 := InvC_get hI 79 12 rfl rfl
  refine go_toq PM159 (k := 3) (pc' := 44) (L' := [some (.inr (.inr (some 79))), none, none]) (st' := [.inl (dt 79 13), .inr (.inr (some 79))]) (w' := (SH, dt)) rfl ?_
  have hI3 : InvC (u2 dt 79 15 (dt 79 13)) := InvC_u2 hI (lo := 0) (hi := 500) rfl rfl rfl (by first | exact bnd1 r1 (by decide) | omega) (by first | exact bnd2 r1 (by decide) | omega)
  have hF4 : Fr [79] dt (u2 dt 79 15 (dt 79 13)) := Fr_u2 hF (by decide)
  have w5 : (u2 dt 79 15 (dt 79 13)) 79 13 = dt 79 13 := rfl
  have w6 : (u2 dt 79 15 (dt 79 13)) 79 14 = dt 79 14 := rfl
  have w7 : (u2 dt 79 15 (dt 79 13)) 79 15 = dt 79 13 := rfl
  have w8 : (u2 dt 79 15 (dt 79 13)) 79 16 = dt 79 16 := rfl
  have w9 : (u2 dt 79 15 (dt 79 13)) 79 2 = dt 79 2 := rfl
  have w10 : (u2 dt 79 15 (dt 79 13)) 79 9 = dt 79 9 := rfl
  have w11 : (u2 dt 79 15 (dt 79 13)) 79 10 = dt 79 10 := rfl
  have w12 : (u2 dt 79 15 (dt 79 13)) 79 11 = dt 79 11 := rfl
  have w13 : (u2 dt 79 15 (dt 79 13)) 79 12 = dt 79 12 := rfl
  have w14 : (u2 dt 79 15 (dt 79 13)) 79 17 = dt 79 17 := rfl
  have w15 : (u2 dt 79 15 (dt 79 13)) 79 20 = dt 79 20 := rfl
  have q0 : RN pB (mB (dt 85) (dt 79 12)) (dt 79 12).toNat (dt 79 13).toNat = (dt 79 13).toNat := h_p2
  refine go_smpq PM159 (L' := [some (.inr (.inr (some 79))), none, none]) (st' := []) (w' := (SH, (u2 dt 79 15 (dt 79 13)))) rfl rfl (s_pf rfl rfl rfl rfl (by first | exact bnd r1 (by decide) (by decide) | exact ⟨by omega, by omega⟩)) ?_
  refine go_toq PM159 (k := 3) (pc' := 52) (L' := [some (.inr (.inr (some 79))), none, none]) (st' := [.inl (dt 79 13), .inr (.inr (some 79))]) (w' := (SH, (u2 dt 79 15 (dt 79 13)))) rfl ?_
  refine go_callq PM159 PM153 (Q' := _) rfl rfl rfl rfl (sp_X6_see_f L xs sio (d + 5) (u2 dt 79 15 (dt 79 13)) hI3  (dt 79 13) (by first | exact bnd r1 (by decide) (by decide) | exact ⟨by omega, by omega⟩) ) ?_
  rintro _ _ ⟨rfl, h16⟩
  refine ⟨rfl, ?_⟩
  rcases h16 with ⟨v_h16, rfl, h16r, h16⟩ | ⟨rfl, h16⟩
  · skip
    obtain ⟨h16_0, h16_1⟩ := h16
    have hb_h16 : v_h16 = (mB (dt 85) (dt 79 12)) (dt 79 13).toNat := by have z := h16_1; rw [show (u2 dt 79 15 (dt 79 13)) 85 = dt 85 from funext (hF4 85 (by decide)), show (u2 dt 79 15 (dt 79 13)) 79 12 = dt 79 12 by first | assumption | omega] at z; exact z
    refine go_ifq PM159 (k := 3) (p1 := 69) (p2 := 61) (L' := [some (.inr (.inr (some 79))), some (.inl v_h16), none]) (st' := []) (w' := (SH, (u2 dt 79 15 (dt 79 13)))) rfl (c_ne (a := v_h16) (b := (-1)) (by first | exact bnd h16r (by decide) (by decide) | exact ⟨by omega, by omega⟩) ⟨by decide, by decide⟩) (fun c17 => ?_) (fun c17 => ?_)
    · skip
      refine go_toq PM159 (k := 1) (pc' := 70) (L' := [some (.inr (.inr (some 79))), some (.inl v_h16), none]) (st' := [.inl v_h16]) (w' := (SH, (u2 dt 79 15 (dt 79 13)))) rfl ?_
      refine go_callq PM159 PM154 (Q' := _) rfl rfl rfl rfl (sp_X6_isLetter L xs sio (d + 4) (u2 dt 79 15 (dt 79 13)) hI3  v_h16 (by first | exact bnd h16r (by decide) (by decide) | exact ⟨by omega, by omega⟩) ) ?_
      rintro _ _ ⟨rfl, h18⟩
      refine ⟨rfl, ?_⟩
      rcases h18 with ⟨v_h18, rfl, h18r, h18⟩
      refine go_ifq PM159 (k := 0) (p1 := 128) (p2 := 76) (L' := [some (.inr (.inr (some 79))), some (.inl v_h16), none]) (st' := []) (w' := (SH, (u2 dt 79 15 (dt 79 13)))) rfl (z_eq (a := v_h18) (by first | exact bnd h18r (by decide) (by decide) | exact ⟨by omega, by omega⟩)) (fun c19 => ?_) (fun c19 => ?_)
      · skip
        refine go_toq PM159 (k := 1) (pc' := 129) (L' := [some (.inr (.inr (some 79))), some (.inl v_h16), none]) (st' := [.inl v_h16]) (w' := (SH, (u2 dt 79 15 (dt 79 13)))) rfl ?_
        refine go_callq PM159 PM155 (Q' := _) rfl rfl rfl rfl (sp_X6_isDigit L xs sio (d + 4) (u2 dt 79 15 (dt 79 13)) hI3  v_h16 (by first | exact bnd h16r (by decide) (by decide) | exact ⟨by omega, by omega⟩) ) ?_
        rintro _ _ ⟨rfl, h20⟩
        refine ⟨rfl, ?_⟩
        rcases h20 with ⟨v_h20, rfl, h20r, h20⟩
        refine go_ifq PM159 (k := 0) (p1 := 228) (p2 := 135) (L' := [some (.inr (.inr (some 79))), some (.inl v_h16), none]) (st' := []) (w' := (SH, (u2 dt 79 15 (dt 79 13)))) rfl (z_eq (a := v_h20) (by first | exact bnd h20r (by decide) (by decide) | exact ⟨by omega, by omega⟩)) (fun c21 => ?_) (fun c21 => ?_)
        · skip
          refine go_toq PM159 (k := 5) (pc' := 235) (L' := [some (.inr (.inr (some 79))), some (.inl v_h16), none]) (st' := [.inl ((dt 79 13) + 1), .inr (.inr (some 79))]) (w' := (SH, (u2 dt 79 15 (dt 79 13)))) rfl ?_
          have hI22 : InvC (u2 (u2 dt 79 15 (dt 79 13)) 79 13 ((dt 79 13) + 1)) := InvC_u2 hI3 (lo := 0) (hi := 501) rfl rfl rfl (by omega) (by omega)
          have hF23 : Fr [79] dt (u2 (u2 dt 79 15 (dt 79 13)) 79 13 ((dt 79 13) + 1)) := Fr_u2 hF4 (by decide)
          have w24 : (u2 (u2 dt 79 15 (dt 79 13)) 79 13 ((dt 79 13) + 1)) 79 13 = (dt 79 13) + 1 := rfl
          have w25 : (u2 (u2 dt 79 15 (dt 79 13)) 79 13 ((dt 79 13) + 1)) 79 14 = dt 79 14 := rfl
          have w26 : (u2 (u2 dt 79 15 (dt 79 13)) 79 13 ((dt 79 13) + 1)) 79 15 = dt 79 13 := rfl
          have w27 : (u2 (u2 dt 79 15 (dt 79 13)) 79 13 ((dt 79 13) + 1)) 79 16 = dt 79 16 := rfl
          have w28 : (u2 (u2 dt 79 15 (dt 79 13)) 79 13 ((dt 79 13) + 1)) 79 2 = dt 79 2 := rfl
          have w29 : (u2 (u2 dt 79 15 (dt 79 13)) 79 13 ((dt 79 13) + 1)) 79 9 = dt 79 9 := rfl
          have w30 : (u2 (u2 dt 79 15 (dt 79 13)) 79 13 ((dt 79 13) + 1)) 79 10 = dt 79 10 := rfl
          have w31 : (u2 (u2 dt 79 15 (dt 79 13)) 79 13 ((dt 79 13) + 1)) 79 11 = dt 79 11 := rfl
          have w32 : (u2 (u2 dt 79 15 (dt 79 13)) 79 13 ((dt 79 13) + 1)) 79 12 = dt 79 12 := rfl
          have w33 : (u2 (u2 dt 79 15 (dt 79 13)) 79 13 ((dt 79 13) + 1)) 79 17 = dt 79 17 := rfl
          have w34 : (u2 (u2 dt 79 15 (dt 79 13)) 79 13 ((dt 79 13) + 1)) 79 20 = dt 79 20 := rfl
          refine go_smpq PM159 (L' := [some (.inr (.inr (some 79))), some (.inl v_h16), none]) (st' := []) (w' := (SH, (u2 (u2 dt 79 15 (dt 79 13)) 79 13 ((dt 79 13) + 1)))) rfl rfl (s_pf rfl rfl rfl rfl (by first | exact bndp r1 (by decide) (by decide) | exact ⟨by omega, by omega⟩)) ?_
          have j45 : ∀ (j45_s0 : Int) (i46 : 0 ≤ j45_s0 ∧ j45_s0 ≤ 1) (i47 : (j45_s0 = 1 ∧ (v_h16 = 59 ∨ v_h16 = 43 ∨ v_h16 = 45 ∨ v_h16 = 42 ∨ v_h16 = 47 ∨ v_h16 = 40 ∨ v_h16 = 41 ∨ v_h16 = 60 ∨ v_h16 = 61 ∨ v_h16 = 62)) ∨ (j45_s0 = 0 ∧ ¬ (v_h16 = 59 ∨ v_h16 = 43 ∨ v_h16 = 45 ∨ v_h16 = 42 ∨ v_h16 = 47 ∨ v_h16 = 40 ∨ v_h16 = 41 ∨ v_h16 = 60 ∨ v_h16 = 61 ∨ v_h16 = 62))), GO (am_XX L xs sio) (d + 6) 159 303 [some (.inr (.inr (some 79))), some (.inl v_h16), none] [.inl j45_s0] (SH, (u2 (u2 dt 79 15 (dt 79 13)) 79 13 ((dt 79 13) + 1))) (fun r w2 => ∃ dt2 : Nat → Nat → Int, w2 = (SH, dt2) ∧ InvC dt2 ∧ Fr [79] dt dt2 ∧ ((r = none ∧ (CUP 0 (mB (dt 85) (dt 79 12)) (dt 79 12).toNat dt2 (RN pB (mB (dt 85) (dt 79 12)) (dt 79 12).toNat (dt 79 13).toNat)) ∧ (dt 79 13 ≤ dt2 79 15) ∧ (dt2 79 2 = dt 79 2) ∧ (dt2 79 9 = dt 79 9) ∧ (dt2 79 10 = dt 79 10) ∧ (dt2 79 11 = dt 79 11) ∧ (dt2 79 12 = dt 79 12) ∧ (dt2 79 17 = dt 79 17) ∧ (dt2 79 20 = dt 79 20)))) := by
            intro j45_s0 i46 i47
            refine go_ifq PM159 (k := 3) (p1 := 316) (p2 := 309) (L' := [some (.inr (.inr (some 79))), some (.inl v_h16), some (.inl j45_s0)]) (st' := [.inr (.inr (some 79))]) (w' := (SH, (u2 (u2 dt 79 15 (dt 79 13)) 79 13 ((dt 79 13) + 1)))) rfl (z_eq (a := j45_s0) (by first | exact bnd i46 (by decide) (by decide) | exact ⟨by omega, by omega⟩)) (fun c48 => ?_) (fun c48 => ?_)
            · skip
              refine go_toq PM159 (k := 1) (pc' := 317) (L' := [some (.inr (.inr (some 79))), some (.inl v_h16), some (.inl j45_s0)]) (st' := [.inl 1, .inr (.inr (some 79))]) (w' := (SH, (u2 (u2 dt 79 15 (dt 79 13)) 79 13 ((dt 79 13) + 1)))) rfl ?_
              have hI49 : InvC (u2 (u2 (u2 dt 79 15 (dt 79 13)) 79 13 ((dt 79 13) + 1)) 79 14 1) := InvC_u2 hI22 (lo := -2147483648) (hi := 2147483647) rfl rfl rfl (by decide) (by decide)
              have hF50 : Fr [79] dt (u2 (u2 (u2 dt 79 15 (dt 79 13)) 79 13 ((dt 79 13) + 1)) 79 14 1) := Fr_u2 hF23 (by decide)
              have w51 : (u2 (u2 (u2 dt 79 15 (dt 79 13)) 79 13 ((dt 79 13) + 1)) 79 14 1) 79 13 = (dt 79 13) + 1 := rfl
              have w52 : (u2 (u2 (u2 dt 79 15 (dt 79 13)) 79 13 ((dt 79 13) + 1)) 79 14 1) 79 14 = 1 := rfl
              have w53 : (u2 (u2 (u2 dt 79 15 (dt 79 13)) 79 13 ((dt 79 13) + 1)) 79 14 1) 79 15 = dt 79 13 := rfl
              have w54 : (u2 (u2 (u2 dt 79 15 (dt 79 13)) 79 13 ((dt 79 13) + 1)) 79 14 1) 79 16 = dt 79 16 := rfl
              have w55 : (u2 (u2 (u2 dt 79 15 (dt 79 13)) 79 13 ((dt 79 13) + 1)) 79 14 1) 79 2 = dt 79 2 := rfl
              have w56 : (u2 (u2 (u2 dt 79 15 (dt 79 13)) 79 13 ((dt 79 13) + 1)) 79 14 1) 79 9 = dt 79 9 := rfl
              have w57 : (u2 (u2 (u2 dt 79 15 (dt 79 13)) 79 13 ((dt 79 13) + 1)) 79 14 1) 79 10 = dt 79 10 := rfl
              have w58 : (u2 (u2 (u2 dt 79 15 (dt 79 13)) 79 13 ((dt 79 13) + 1)) 79 14 1) 79 11 = dt 79 11 := rfl
              have w59 : (u2 (u2 (u2 dt 79 15 (dt 79 13)) 79 13 ((dt 79 13) + 1)) 79 14 1) 79 12 = dt 79 12 := rfl
              have w60 : (u2 (u2 (u2 dt 79 15 (dt 79 13)) 79 13 ((dt 79 13) + 1)) 79 14 1) 79 17 = dt 79 17 := rfl
              have w61 : (u2 (u2 (u2 dt 79 15 (dt 79 13)) 79 13 ((dt 79 13) + 1)) 79 14 1) 79 20 = dt 79 20 := rfl
              clear w24 w25 w26 w27 w28 w29 w30 w31 w32 w33 w34
              refine go_smpq PM159 (L' := [some (.inr (.inr (some 79))), some (.inl v_h16), some (.inl j45_s0)]) (st' := []) (w' := (SH, (u2 (u2 (u2 dt 79 15 (dt 79 13)) 79 13 ((dt 79 13) + 1)) 79 14 1))) rfl rfl (s_pf rfl rfl rfl rfl ⟨by decide, by decide⟩) ?_
              refine go_retq PM159 (k := 0) (r := none) (w1 := (SH, (u2 (u2 (u2 dt 79 15 (dt 79 13)) 79 13 ((dt 79 13) + 1)) 79 14 1))) rfl ?_
              exact ⟨(u2 (u2 (u2 dt 79 15 (dt 79 13)) 79 13 ((dt 79 13) + 1)) 79 14 1), rfl, hI49, hF50, ⟨rfl, ⟨by first | exact CUP_s q0 (by omega) (by omega) (pLf hb_h16 (by omega)) (pDf hb_h16 (by omega)) hb_h16 (by omega) (.inl ⟨pSt rfl (by omega), by omega⟩) | exact CUP_s q0 (by omega) (by omega) (pLf hb_h16 (by omega)) (pDf hb_h16 (by omega)) hb_h16 (by omega) (.inr ⟨pSf rfl (by omega), by omega⟩), by first | exact True.intro | assumption | rfl | omega | trivial, by first | exact True.intro | assumption | rfl | omega | trivial, by first | exact True.intro | assumption | rfl | omega | trivial, by first | exact True.intro | assumption | rfl | omega | trivial, by first | exact True.intro | assumption | rfl | omega | trivial, by first | exact True.intro | assumption | rfl | omega | trivial, by first | exact True.intro | assumption | rfl | omega | trivial, by first | exact True.intro | assumption | rfl | omega | trivial⟩⟩⟩
            · skip
              refine go_toq PM159 (k := 4) (pc' := 317) (L' := [some (.inr (.inr (some 79))), some (.inl v_h16), some (.inl j45_s0)]) (st' := [.inl (100 + v_h16), .inr (.inr (some 79))]) (w' := (SH, (u2 (u2 dt 79 15 (dt 79 13)) 79 13 ((dt 79 13) + 1)))) rfl ?_
              have hI62 : InvC (u2 (u2 (u2 dt 79 15 (dt 79 13)) 79 13 ((dt 79 13) + 1)) 79 14 (100 + v_h16)) := InvC_u2 hI22 (lo := -2147483648) (hi := 2147483647) rfl rfl rfl (by omega) (by omega)
              have hF63 : Fr [79] dt (u2 (u2 (u2 dt 79 15 (dt 79 13)) 79 13 ((dt 79 13) + 1)) 79 14 (100 + v_h16)) := Fr_u2 hF23 (by decide)
              have w64 : (u2 (u2 (u2 dt 79 15 (dt 79 13)) 79 13 ((dt 79 13) + 1)) 79 14 (100 + v_h16)) 79 13 = (dt 79 13) + 1 := rfl
              have w65 : (u2 (u2 (u2 dt 79 15 (dt 79 13)) 79 13 ((dt 79 13) + 1)) 79 14 (100 + v_h16)) 79 14 = 100 + v_h16 := rfl
              have w66 : (u2 (u2 (u2 dt 79 15 (dt 79 13)) 79 13 ((dt 79 13) + 1)) 79 14 (100 + v_h16)) 79 15 = dt 79 13 := rfl
              have w67 : (u2 (u2 (u2 dt 79 15 (dt 79 13)) 79 13 ((dt 79 13) + 1)) 79 14 (100 + v_h16)) 79 16 = dt 79 16 := rfl
              have w68 : (u2 (u2 (u2 dt 79 15 (dt 79 13)) 79 13 ((dt 79 13) + 1)) 79 14 (100 + v_h16)) 79 2 = dt 79 2 := rfl
              have w69 : (u2 (u2 (u2 dt 79 15 (dt 79 13)) 79 13 ((dt 79 13) + 1)) 79 14 (100 + v_h16)) 79 9 = dt 79 9 := rfl
              have w70 : (u2 (u2 (u2 dt 79 15 (dt 79 13)) 79 13 ((dt 79 13) + 1)) 79 14 (100 + v_h16)) 79 10 = dt 79 10 := rfl
              have w71 : (u2 (u2 (u2 dt 79 15 (dt 79 13)) 79 13 ((dt 79 13) + 1)) 79 14 (100 + v_h16)) 79 11 = dt 79 11 := rfl
              have w72 : (u2 (u2 (u2 dt 79 15 (dt 79 13)) 79 13 ((dt 79 13) + 1)) 79 14 (100 + v_h16)) 79 12 = dt 79 12 := rfl
              have w73 : (u2 (u2 (u2 dt 79 15 (dt 79 13)) 79 13 ((dt 79 13) + 1)) 79 14 (100 + v_h16)) 79 17 = dt 79 17 := rfl
              have w74 : (u2 (u2 (u2 dt 79 15 (dt 79 13)) 79 13 ((dt 79 13) + 1)) 79 14 (100 + v_h16)) 79 20 = dt 79 20 := rfl
              clear w24 w25 w26 w27 w28 w29 w30 w31 w32 w33 w34
              refine go_smpq PM159 (L' := [some (.inr (.inr (some 79))), some (.inl v_h16), some (.inl j45_s0)]) (st' := []) (w' := (SH, (u2 (u2 (u2 dt 79 15 (dt 79 13)) 79 13 ((dt 79 13) + 1)) 79 14 (100 + v_h16)))) rfl rfl (s_pf rfl rfl rfl rfl ⟨by omega, by omega⟩) ?_
              refine go_retq PM159 (k := 0) (r := none) (w1 := (SH, (u2 (u2 (u2 dt 79 15 (dt 79 13)) 79 13 ((dt 79 13) + 1)) 79 14 (100 + v_h16)))) rfl ?_
              exact ⟨(u2 (u2 (u2 dt 79 15 (dt 79 13)) 79 13 ((dt 79 13) + 1)) 79 14 (100 + v_h16)), rfl, hI62, hF63, ⟨rfl, ⟨by first | exact CUP_s q0 (by omega) (by omega) (pLf hb_h16 (by omega)) (pDf hb_h16 (by omega)) hb_h16 (by omega) (.inl ⟨pSt rfl (by omega), by omega⟩) | exact CUP_s q0 (by omega) (by omega) (pLf hb_h16 (by omega)) (pDf hb_h16 (by omega)) hb_h16 (by omega) (.inr ⟨pSf rfl (by omega), by omega⟩), by first | exact True.intro | assumption | rfl | omega | trivial, by first | exact True.intro | assumption | rfl | omega | trivial, by first | exact True.intro | assumption | rfl | omega | trivial, by first | exact True.intro | assumption | rfl | omega | trivial, by first | exact True.intro | assumption | rfl | omega | trivial, by first | exact True.intro | assumption | rfl | omega | trivial, by first | exact True.intro | assumption | rfl | omega | trivial, by first | exact True.intro | assumption | rfl | omega | trivial⟩⟩⟩
          refine go_ifq PM159 (k := 2) (p1 := 298) (p2 := 244) (L' := [some (.inr (.inr (some 79))), some (.inl v_h16), none]) (st' := []) (w' := (SH, (u2 (u2 dt 79 15 (dt 79 13)) 79 13 ((dt 79 13) + 1)))) rfl (c_eq (a := v_h16) (b := 59) (by first | exact bnd h16r (by decide) (by decide) | exact ⟨by omega, by omega⟩) ⟨by decide, by decide⟩) (fun c75 => ?_) (fun c75 => ?_)
          · skip
            refine go_toq PM159 (k := 2) (pc' := 303) (L' := [some (.inr (.inr (some 79))), some (.inl v_h16), none]) (st' := [.inl 1]) (w' := (SH, (u2 (u2 dt 79 15 (dt 79 13)) 79 13 ((dt 79 13) + 1)))) rfl ?_
            exact GO.le (j45 1 ⟨by decide, by decide⟩ (by omega)) ⟨.inl rfl, .inl rfl, .inl rfl, trivial⟩
          · skip
            refine go_ifq PM159 (k := 2) (p1 := 298) (p2 := 250) (L' := [some (.inr (.inr (some 79))), some (.inl v_h16), none]) (st' := []) (w' := (SH, (u2 (u2 dt 79 15 (dt 79 13)) 79 13 ((dt 79 13) + 1)))) rfl (c_eq (a := v_h16) (b := 43) (by first | exact bnd h16r (by decide) (by decide) | exact ⟨by omega, by omega⟩) ⟨by decide, by decide⟩) (fun c76 => ?_) (fun c76 => ?_)
            · skip
              refine go_toq PM159 (k := 2) (pc' := 303) (L' := [some (.inr (.inr (some 79))), some (.inl v_h16), none]) (st' := [.inl 1]) (w' := (SH, (u2 (u2 dt 79 15 (dt 79 13)) 79 13 ((dt 79 13) + 1)))) rfl ?_
              exact GO.le (j45 1 ⟨by decide, by decide⟩ (by omega)) ⟨.inl rfl, .inl rfl, .inl rfl, trivial⟩
            · skip
              refine go_ifq PM159 (k := 2) (p1 := 298) (p2 := 256) (L' := [some (.inr (.inr (some 79))), some (.inl v_h16), none]) (st' := []) (w' := (SH, (u2 (u2 dt 79 15 (dt 79 13)) 79 13 ((dt 79 13) + 1)))) rfl (c_eq (a := v_h16) (b := 45) (by first | exact bnd h16r (by decide) (by decide) | exact ⟨by omega, by omega⟩) ⟨by decide, by decide⟩) (fun c77 => ?_) (fun c77 => ?_)
              · skip
                refine go_toq PM159 (k := 2) (pc' := 303) (L' := [some (.inr (.inr (some 79))), some (.inl v_h16), none]) (st' := [.inl 1]) (w' := (SH, (u2 (u2 dt 79 15 (dt 79 13)) 79 13 ((dt 79 13) + 1)))) rfl ?_
                exact GO.le (j45 1 ⟨by decide, by decide⟩ (by omega)) ⟨.inl rfl, .inl rfl, .inl rfl, trivial⟩
              · skip
                refine go_ifq PM159 (k := 2) (p1 := 298) (p2 := 262) (L' := [some (.inr (.inr (some 79))), some (.inl v_h16), none]) (st' := []) (w' := (SH, (u2 (u2 dt 79 15 (dt 79 13)) 79 13 ((dt 79 13) + 1)))) rfl (c_eq (a := v_h16) (b := 42) (by first | exact bnd h16r (by decide) (by decide) | exact ⟨by omega, by omega⟩) ⟨by decide, by decide⟩) (fun c78 => ?_) (fun c78 => ?_)
                · skip
                  refine go_toq PM159 (k := 2) (pc' := 303) (L' := [some (.inr (.inr (some 79))), some (.inl v_h16), none]) (st' := [.inl 1]) (w' := (SH, (u2 (u2 dt 79 15 (dt 79 13)) 79 13 ((dt 79 13) + 1)))) rfl ?_
                  exact GO.le (j45 1 ⟨by decide, by decide⟩ (by omega)) ⟨.inl rfl, .inl rfl, .inl rfl, trivial⟩
                · skip
                  refine go_ifq PM159 (k := 2) (p1 := 298) (p2 := 268) (L' := [some (.inr (.inr (some 79))), some (.inl v_h16), none]) (st' := []) (w' := (SH, (u2 (u2 dt 79 15 (dt 79 13)) 79 13 ((dt 79 13) + 1)))) rfl (c_eq (a := v_h16) (b := 47) (by first | exact bnd h16r (by decide) (by decide) | exact ⟨by omega, by omega⟩) ⟨by decide, by decide⟩) (fun c79 => ?_) (fun c79 => ?_)
                  · skip
                    refine go_toq PM159 (k := 2) (pc' := 303) (L' := [some (.inr (.inr (some 79))), some (.inl v_h16), none]) (st' := [.inl 1]) (w' := (SH, (u2 (u2 dt 79 15 (dt 79 13)) 79 13 ((dt 79 13) + 1)))) rfl ?_
                    exact GO.le (j45 1 ⟨by decide, by decide⟩ (by omega)) ⟨.inl rfl, .inl rfl, .inl rfl, trivial⟩
                  · skip
                    refine go_ifq PM159 (k := 2) (p1 := 298) (p2 := 274) (L' := [some (.inr (.inr (some 79))), some (.inl v_h16), none]) (st' := []) (w' := (SH, (u2 (u2 dt 79 15 (dt 79 13)) 79 13 ((dt 79 13) + 1)))) rfl (c_eq (a := v_h16) (b := 40) (by first | exact bnd h16r (by decide) (by decide) | exact ⟨by omega, by omega⟩) ⟨by decide, by decide⟩) (fun c80 => ?_) (fun c80 => ?_)
                    · skip
                      refine go_toq PM159 (k := 2) (pc' := 303) (L' := [some (.inr (.inr (some 79))), some (.inl v_h16), none]) (st' := [.inl 1]) (w' := (SH, (u2 (u2 dt 79 15 (dt 79 13)) 79 13 ((dt 79 13) + 1)))) rfl ?_
                      exact GO.le (j45 1 ⟨by decide, by decide⟩ (by omega)) ⟨.inl rfl, .inl rfl, .inl rfl, trivial⟩
                    · skip
                      refine go_ifq PM159 (k := 2) (p1 := 298) (p2 := 280) (L' := [some (.inr (.inr (some 79))), some (.inl v_h16), none]) (st' := []) (w' := (SH, (u2 (u2 dt 79 15 (dt 79 13)) 79 13 ((dt 79 13) + 1)))) rfl (c_eq (a := v_h16) (b := 41) (by first | exact bnd h16r (by decide) (by decide) | exact ⟨by omega, by omega⟩) ⟨by decide, by decide⟩) (fun c81 => ?_) (fun c81 => ?_)
                      · skip
                        refine go_toq PM159 (k := 2) (pc' := 303) (L' := [some (.inr (.inr (some 79))), some (.inl v_h16), none]) (st' := [.inl 1]) (w' := (SH, (u2 (u2 dt 79 15 (dt 79 13)) 79 13 ((dt 79 13) + 1)))) rfl ?_
                        exact GO.le (j45 1 ⟨by decide, by decide⟩ (by omega)) ⟨.inl rfl, .inl rfl, .inl rfl, trivial⟩
                      · skip
                        refine go_ifq PM159 (k := 2) (p1 := 298) (p2 := 286) (L' := [some (.inr (.inr (some 79))), some (.inl v_h16), none]) (st' := []) (w' := (SH, (u2 (u2 dt 79 15 (dt 79 13)) 79 13 ((dt 79 13) + 1)))) rfl (c_eq (a := v_h16) (b := 60) (by first | exact bnd h16r (by decide) (by decide) | exact ⟨by omega, by omega⟩) ⟨by decide, by decide⟩) (fun c82 => ?_) (fun c82 => ?_)
                        · skip
                          refine go_toq PM159 (k := 2) (pc' := 303) (L' := [some (.inr (.inr (some 79))), some (.inl v_h16), none]) (st' := [.inl 1]) (w' := (SH, (u2 (u2 dt 79 15 (dt 79 13)) 79 13 ((dt 79 13) + 1)))) rfl ?_
                          exact GO.le (j45 1 ⟨by decide, by decide⟩ (by omega)) ⟨.inl rfl, .inl rfl, .inl rfl, trivial⟩
                        · skip
                          refine go_ifq PM159 (k := 2) (p1 := 298) (p2 := 292) (L' := [some (.inr (.inr (some 79))), some (.inl v_h16), none]) (st' := []) (w' := (SH, (u2 (u2 dt 79 15 (dt 79 13)) 79 13 ((dt 79 13) + 1)))) rfl (c_eq (a := v_h16) (b := 61) (by first | exact bnd h16r (by decide) (by decide) | exact ⟨by omega, by omega⟩) ⟨by decide, by decide⟩) (fun c83 => ?_) (fun c83 => ?_)
                          · skip
                            refine go_toq PM159 (k := 2) (pc' := 303) (L' := [some (.inr (.inr (some 79))), some (.inl v_h16), none]) (st' := [.inl 1]) (w' := (SH, (u2 (u2 dt 79 15 (dt 79 13)) 79 13 ((dt 79 13) + 1)))) rfl ?_
                            exact GO.le (j45 1 ⟨by decide, by decide⟩ (by omega)) ⟨.inl rfl, .inl rfl, .inl rfl, trivial⟩
                          · skip
                            refine go_ifq PM159 (k := 2) (p1 := 302) (p2 := 298) (L' := [some (.inr (.inr (some 79))), some (.inl v_h16), none]) (st' := []) (w' := (SH, (u2 (u2 dt 79 15 (dt 79 13)) 79 13 ((dt 79 13) + 1)))) rfl (c_ne (a := v_h16) (b := 62) (by first | exact bnd h16r (by decide) (by decide) | exact ⟨by omega, by omega⟩) ⟨by decide, by decide⟩) (fun c84 => ?_) (fun c84 => ?_)
                            · skip
                              refine go_toq PM159 (k := 1) (pc' := 303) (L' := [some (.inr (.inr (some 79))), some (.inl v_h16), none]) (st' := [.inl 0]) (w' := (SH, (u2 (u2 dt 79 15 (dt 79 13)) 79 13 ((dt 79 13) + 1)))) rfl ?_
                              exact GO.le (j45 0 ⟨by decide, by decide⟩ (by omega)) ⟨.inl rfl, .inl rfl, .inl rfl, trivial⟩
                            · skip
                              refine go_toq PM159 (k := 2) (pc' := 303) (L' := [some (.inr (.inr (some 79))), some (.inl v_h16), none]) (st' := [.inl 1]) (w' := (SH, (u2 (u2 dt 79 15 (dt 79 13)) 79 13 ((dt 79 13) + 1)))) rfl ?_
                              exact GO.le (j45 1 ⟨by decide, by decide⟩ (by omega)) ⟨.inl rfl, .inl rfl, .inl rfl, trivial⟩
        · skip
          refine go_toq PM159 (k := 2) (pc' := 137) (L' := [some (.inr (.inr (some 79))), some (.inl v_h16), none]) (st' := [.inl 0, .inr (.inr (some 79))]) (w' := (SH, (u2 dt 79 15 (dt 79 13)))) rfl ?_
          have hI85 : InvC (u2 (u2 dt 79 15 (dt 79 13)) 79 16 0) := InvC_u2 hI3 (lo := 0) (hi := 9999) rfl rfl rfl (by decide) (by decide)
          have hF86 : Fr [79] dt (u2 (u2 dt 79 15 (dt 79 13)) 79 16 0) := Fr_u2 hF4 (by decide)
          have w87 : (u2 (u2 dt 79 15 (dt 79 13)) 79 16 0) 79 13 = dt 79 13 := rfl
          have w88 : (u2 (u2 dt 79 15 (dt 79 13)) 79 16 0) 79 14 = dt 79 14 := rfl
          have w89 : (u2 (u2 dt 79 15 (dt 79 13)) 79 16 0) 79 15 = dt 79 13 := rfl
          have w90 : (u2 (u2 dt 79 15 (dt 79 13)) 79 16 0) 79 16 = 0 := rfl
          have w91 : (u2 (u2 dt 79 15 (dt 79 13)) 79 16 0) 79 2 = dt 79 2 := rfl
          have w92 : (u2 (u2 dt 79 15 (dt 79 13)) 79 16 0) 79 9 = dt 79 9 := rfl
          have w93 : (u2 (u2 dt 79 15 (dt 79 13)) 79 16 0) 79 10 = dt 79 10 := rfl
          have w94 : (u2 (u2 dt 79 15 (dt 79 13)) 79 16 0) 79 11 = dt 79 11 := rfl
          have w95 : (u2 (u2 dt 79 15 (dt 79 13)) 79 16 0) 79 12 = dt 79 12 := rfl
          have w96 : (u2 (u2 dt 79 15 (dt 79 13)) 79 16 0) 79 17 = dt 79 17 := rfl
          have w97 : (u2 (u2 dt 79 15 (dt 79 13)) 79 16 0) 79 20 = dt 79 20 := rfl
          refine go_smpq PM159 (L' := [some (.inr (.inr (some 79))), some (.inl v_h16), none]) (st' := []) (w' := (SH, (u2 (u2 dt 79 15 (dt 79 13)) 79 16 0))) rfl rfl (s_pf rfl rfl rfl rfl ⟨by decide, by decide⟩) ?_
          exact GO.mono (sp_X6_next0_d0 L xs sio (d + 0) (u2 (u2 dt 79 15 (dt 79 13)) 79 16 0) hI85 v_h16 ⟨by omega, by omega⟩ (by omega) (by omega) (by omega) (by rw [show (u2 (u2 dt 79 15 (dt 79 13)) 79 16 0) 85 = dt 85 from funext (hF86 85 (by decide)), show (u2 (u2 dt 79 15 (dt 79 13)) 79 16 0) 79 12 = dt 79 12 by first | assumption | omega]; first | omega | (rw [show ((u2 (u2 dt 79 15 (dt 79 13)) 79 16 0) 79 15).toNat = (dt 79 13).toNat by first | assumption | omega]; exact hb_h16)) (by rw [show (u2 (u2 dt 79 15 (dt 79 13)) 79 16 0) 85 = dt 85 from funext (hF86 85 (by decide)), show (u2 (u2 dt 79 15 (dt 79 13)) 79 16 0) 79 12 = dt 79 12 by first | assumption | omega]; rw [show (u2 (u2 dt 79 15 (dt 79 13)) 79 16 0) 79 13 = dt 79 13 by first | assumption | omega]; exact h_p2) (by omega) (by omega)) (by rintro r w2 ⟨dt2_, e_, i2_, f2_, r0_, c1_, c2_, k0_, k1_, k2_, k3_, k4_, k5_, k6_⟩; rw [show (u2 (u2 dt 79 15 (dt 79 13)) 79 16 0) 85 = dt 85 from funext (hF86 85 (by decide)), show (u2 (u2 dt 79 15 (dt 79 13)) 79 16 0) 79 12 = dt 79 12 by first | assumption | omega] at c1_; exact ⟨dt2_, e_, i2_, Fr_tr hF86 f2_ (by decide), r0_, (by rw [show (u2 (u2 dt 79 15 (dt 79 13)) 79 16 0) 79 13 = dt 79 13 by first | assumption | omega] at c1_; exact c1_), (by omega), (by omega), (by omega), (by omega), (by omega), (by omega), (by omega), (by omega)⟩)
      · skip
        exact GO.mono (sp_X6_next0_l0 L xs sio (d + 0) (u2 dt 79 15 (dt 79 13)) hI3 v_h16 ⟨by omega, by omega⟩ (by omega) (by omega) (by omega) (by rw [show (u2 dt 79 15 (dt 79 13)) 85 = dt 85 from funext (hF4 85 (by decide)), show (u2 dt 79 15 (dt 79 13)) 79 12 = dt 79 12 by first | assumption | omega]; first | omega | (rw [show ((u2 dt 79 15 (dt 79 13)) 79 15).toNat = (dt 79 13).toNat by first | assumption | omega]; exact hb_h16)) (by rw [show (u2 dt 79 15 (dt 79 13)) 85 = dt 85 from funext (hF4 85 (by decide)), show (u2 dt 79 15 (dt 79 13)) 79 12 = dt 79 12 by first | assumption | omega]; rw [show (u2 dt 79 15 (dt 79 13)) 79 13 = dt 79 13 by first | assumption | omega]; exact h_p2) (by omega)) (by rintro r w2 ⟨dt2_, e_, i2_, f2_, r0_, c1_, c2_, k0_, k1_, k2_, k3_, k4_, k5_, k6_⟩; rw [show (u2 dt 79 15 (dt 79 13)) 85 = dt 85 from funext (hF4 85 (by decide)), show (u2 dt 79 15 (dt 79 13)) 79 12 = dt 79 12 by first | assumption | omega] at c1_; exact ⟨dt2_, e_, i2_, Fr_tr hF4 f2_ (by decide), r0_, (by rw [show (u2 dt 79 15 (dt 79 13)) 79 13 = dt 79 13 by first | assumption | omega] at c1_; exact c1_), (by omega), (by omega), (by omega), (by omega), (by omega), (by omega), (by omega), (by omega)⟩)
    · exfalso; omega
  · skip
    refine go_toq PM159 (k := 6) (pc' := 63) (L' := [some (.inr (.inr (some 79))), some (.inl (-1)), none]) (st' := [.inl 0, .inr (.inr (some 79))]) (w' := (SH, (u2 dt 79 15 (dt 79 13)))) rfl ?_
    have hI98 : InvC (u2 (u2 dt 79 15 (dt 79 13)) 79 14 0) := InvC_u2 hI3 (lo := -2147483648) (hi := 2147483647) rfl rfl rfl (by decide) (by decide)
    have hF99 : Fr [79] dt (u2 (u2 dt 79 15 (dt 79 13)) 79 14 0) := Fr_u2 hF4 (by decide)
    have w100 : (u2 (u2 dt 79 15 (dt 79 13)) 79 14 0) 79 13 = dt 79 13 := rfl
    have w101 : (u2 (u2 dt 79 15 (dt 79 13)) 79 14 0) 79 14 = 0 := rfl
    have w102 : (u2 (u2 dt 79 15 (dt 79 13)) 79 14 0) 79 15 = dt 79 13 := rfl
    have w103 : (u2 (u2 dt 79 15 (dt 79 13)) 79 14 0) 79 16 = dt 79 16 := rfl
    have w104 : (u2 (u2 dt 79 15 (dt 79 13)) 79 14 0) 79 2 = dt 79 2 := rfl
    have w105 : (u2 (u2 dt 79 15 (dt 79 13)) 79 14 0) 79 9 = dt 79 9 := rfl
    have w106 : (u2 (u2 dt 79 15 (dt 79 13)) 79 14 0) 79 10 = dt 79 10 := rfl
    have w107 : (u2 (u2 dt 79 15 (dt 79 13)) 79 14 0) 79 11 = dt 79 11 := rfl
    have w108 : (u2 (u2 dt 79 15 (dt 79 13)) 79 14 0) 79 12 = dt 79 12 := rfl
    have w109 : (u2 (u2 dt 79 15 (dt 79 13)) 79 14 0) 79 17 = dt 79 17 := rfl
    have w110 : (u2 (u2 dt 79 15 (dt 79 13)) 79 14 0) 79 20 = dt 79 20 := rfl
    refine go_smpq PM159 (L' := [some (.inr (.inr (some 79))), some (.inl (-1)), none]) (st' := []) (w' := (SH, (u2 (u2 dt 79 15 (dt 79 13)) 79 14 0))) rfl rfl (s_pf rfl rfl rfl rfl ⟨by decide, by decide⟩) ?_
    refine go_retq PM159 (k := 1) (r := none) (w1 := (SH, (u2 (u2 dt 79 15 (dt 79 13)) 79 14 0))) rfl ?_
    exact ⟨(u2 (u2 dt 79 15 (dt 79 13)) 79 14 0), rfl, hI98, hF99, ⟨rfl, ⟨by exact CUP_e q0 (by omega) (by omega) (by omega) (by omega) (by omega), by first | exact True.intro | assumption | rfl | omega | trivial, by first | exact True.intro | assumption | rfl | omega | trivial, by first | exact True.intro | assumption | rfl | omega | trivial, by first | exact True.intro | assumption | rfl | omega | trivial, by first | exact True.intro | assumption | rfl | omega | trivial, by first | exact True.intro | assumption | rfl | omega | trivial, by first | exact True.intro | assumption | rfl | omega | trivial, by first | exact True.intro | assumption | rfl | omega | trivial⟩⟩⟩
set_option maxHeartbeats 8000000 in
set_option maxRecDepth 20000 in
theorem sp_X6_next0_p0 (L : Nat) (xs : Nat → Int32) (sio : Option Nat) (d : Nat) (dt : Nat → Nat → Int) (hI : InvC dt)   (h_p0 : dt 79 13 ≤ dt 79 12) (h_p1 : dt 79 9 = 0) : GO (am_XX L xs sio) (d + 6) 159 0 [some (.inr (.inr (some 79))), none, none] [] (SH, dt) (fun r w2 => ∃ dt2 : Nat → Nat → Int, w2 = (SH, dt2) ∧ InvC dt2 ∧ Fr [79] dt dt2 ∧ ((r = none ∧ (CUP 0 (mB (dt 85) (dt 79 12)) (dt 79 12).toNat dt2 (RN pB (mB (dt 85) (dt 79 12)) (dt 79 12).toNat (dt 79 13).toNat)) ∧ (dt 79 13 ≤ dt2 79 15) ∧ (dt2 79 2 = dt 79 2) ∧ (dt2 79 9 = dt 79 9) ∧ (dt2 79 10 = dt 79 10) ∧ (dt2 79 11 = dt 79 11) ∧ (dt2 79 12 = dt 79 12) ∧ (dt2 79 17 = dt 79 17) ∧ (dt2 79 20 = dt 79 20)))) := by
  have hF : Fr [79] dt dt := Fr_refl
  have r1 : 0 ≤ dt 79 13 ∧ dt 79 13 ≤ 501 := InvC_get hI 79 13 rfl rfl
  have r2 : 0 ≤ dt 79 12 ∧ dt 79 12 ≤ 500 := InvC_get hI 79 12 rfl rfl
  have loop50 : ∀ (k_ : Nat) (dt36 : Nat → Nat → Int) (hI37 : InvC dt36) (hF38 : Fr [79] dt dt36) (i39 : dt 79 13 ≤ dt36 79 13 ∧ dt36 79 13 ≤ dt 79 12) (i40 : RN pB (mB (dt 85) (dt 79 12)) (dt 79 12).toNat (dt 79 13).toNat = RN pB (mB (dt 85) (dt 79 12)) (dt 79 12).toNat (dt36 79 13).toNat) (i41 : dt36 79 14 = dt 79 14) (i42 : dt36 79 16 = dt 79 16) (i43 : dt36 79 2 = dt 79 2) (i44 : dt36 79 9 = dt 79 9) (i45 : dt36 79 10 = dt 79 10) (i46 : dt36 79 11 = dt 79 11) (i47 : dt36 79 12 = dt 79 12) (i48 : dt36 79 17 = dt 79 17) (i49 : dt36 79 20 = dt 79 20), (502 - dt36 79 13).toNat < k_ → GO (am_XX L xs sio) (d + 6) 159 0 [some (.inr (.inr (some 79))), none, none] [] (SH, dt36) (fun r w2 => ∃ dt2 : Nat → Nat → Int, w2 = (SH, dt2) ∧ InvC dt2 ∧ Fr [79] dt dt2 ∧ ((r = none ∧ (CUP 0 (mB (dt 85) (dt 79 12)) (dt 79 12).toNat dt2 (RN pB (mB (dt 85) (dt 79 12)) (dt 79 12).toNat (dt 79 13).toNat)) ∧ (dt 79 13 ≤ dt2 79 15) ∧ (dt2 79 2 = dt 79 2) ∧ (dt2 79 9 = dt 79 9) ∧ (dt2 79 10 = dt 79 10) ∧ (dt2 79 11 = dt 79 11) ∧ (dt2 79 12 = dt 79 12) ∧ (dt2 79 17 = dt 79 17) ∧ (dt2 79 20 = dt 79 20)))) := by
    intro k_
    induction k_ with
    | zero => intro dt36 hI37 hF38 i39 i40 i41 i42 i43 i44 i45 i46 i47 i48 i49 hm; exact absurd hm (Nat.not_lt_zero _)
    | succ k_ ih_loop50 =>
      intro dt36 hI37 hF38 i39 i40 i41 i42 i43 i44 i45 i46 i47 i48 i49 hm
      have q_ := i40
      have r51 : 0 ≤ dt36 79 13 ∧ dt36 79 13 ≤ 501 := InvC_get hI37 79 13 rfl rfl
      refine go_toq PM159 (k := 3) (pc' := 5) (L' := [some (.inr (.inr (some 79))), none, none]) (st' := [.inl (dt36 79 13), .inr (.inr (some 79))]) (w' := (SH, dt36)) rfl ?_
      refine go_callq PM159 PM153 (Q' := _) rfl rfl rfl rfl (sp_X6_see_f L xs sio (d + 5) dt36 hI37  (dt36 79 13) (by first | exact bnd r51 (by decide) (by decide) | exact ⟨by omega, by omega⟩) ) ?_
      rintro _ _ ⟨rfl, h52⟩
      refine ⟨rfl, ?_⟩
      rcases h52 with ⟨v_h52, rfl, h52r, h52⟩ | ⟨rfl, h52⟩
      · skip
        obtain ⟨h52_0, h52_1⟩ := h52
        have hb_h52 : v_h52 = (mB (dt 85) (dt 79 12)) (dt36 79 13).toNat := by have z := h52_1; rw [show dt36 85 = dt 85 from funext (hF38 85 (by decide)), show dt36 79 12 = dt 79 12 by first | assumption | omega] at z; exact z
        refine go_ifq PM159 (k := 1) (p1 := 26) (p2 := 13) (L' := [some (.inr (.inr (some 79))), none, none]) (st' := []) (w' := (SH, dt36)) rfl (c_eq (a := v_h52) (b := 32) (by first | exact bnd h52r (by decide) (by decide) | exact ⟨by omega, by omega⟩) ⟨by decide, by decide⟩) (fun c53 => ?_) (fun c53 => ?_)
        · skip
          refine go_toq PM159 (k := 5) (pc' := 33) (L' := [some (.inr (.inr (some 79))), none, none]) (st' := [.inl ((dt36 79 13) + 1), .inr (.inr (some 79))]) (w' := (SH, dt36)) rfl ?_
          have hI54 : InvC (u2 dt36 79 13 ((dt36 79 13) + 1)) := InvC_u2 hI37 (lo := 0) (hi := 501) rfl rfl rfl (by omega) (by omega)
          have hF55 : Fr [79] dt (u2 dt36 79 13 ((dt36 79 13) + 1)) := Fr_u2 hF38 (by decide)
          have w56 : (u2 dt36 79 13 ((dt36 79 13) + 1)) 79 13 = (dt36 79 13) + 1 := rfl
          have w57 : (u2 dt36 79 13 ((dt36 79 13) + 1)) 79 14 = dt36 79 14 := rfl
          have w58 : (u2 dt36 79 13 ((dt36 79 13) + 1)) 79 15 = dt36 79 15 := rfl
          have w59 : (u2 dt36 79 13 ((dt36 79 13) + 1)) 79 16 = dt36 79 16 := rfl
          have w60 : (u2 dt36 79 13 ((dt36 79 13) + 1)) 79 2 = dt36 79 2 := rfl
          have w61 : (u2 dt36 79 13 ((dt36 79 13) + 1)) 79 9 = dt36 79 9 := rfl
          have w62 : (u2 dt36 79 13 ((dt36 79 13) + 1)) 79 10 = dt36 79 10 := rfl
          have w63 : (u2 dt36 79 13 ((dt36 79 13) + 1)) 79 11 = dt36 79 11 := rfl
          have w64 : (u2 dt36 79 13 ((dt36 79 13) + 1)) 79 12 = dt36 79 12 := rfl
          have w65 : (u2 dt36 79 13 ((dt36 79 13) + 1)) 79 17 = dt36 79 17 := rfl
          have w66 : (u2 dt36 79 13 ((dt36 79 13) + 1)) 79 20 = dt36 79 20 := rfl
          refine go_smpq PM159 (L' := [some (.inr (.inr (some 79))), none, none]) (st' := []) (w' := (SH, (u2 dt36 79 13 ((dt36 79 13) + 1)))) rfl rfl (s_pf rfl rfl rfl rfl (by first | exact bndp r51 (by decide) (by decide) | exact ⟨by omega, by omega⟩)) ?_
          refine go_toq PM159 (k := 1) (pc' := 0) (L' := [some (.inr (.inr (some 79))), none, none]) (st' := []) (w' := (SH, (u2 dt36 79 13 ((dt36 79 13) + 1)))) rfl ?_
          exact GO.le (ih_loop50 (u2 dt36 79 13 ((dt36 79 13) + 1)) hI54 hF55 (by first | omega | exact RN_st q_ (by omega) (by omega) (pBt hb_h52 (by omega))) (by first | omega | exact RN_st q_ (by omega) (by omega) (pBt hb_h52 (by omega))) (by first | omega | exact RN_st q_ (by omega) (by omega) (pBt hb_h52 (by omega))) (by first | omega | exact RN_st q_ (by omega) (by omega) (pBt hb_h52 (by omega))) (by first | omega | exact RN_st q_ (by omega) (by omega) (pBt hb_h52 (by omega))) (by first | omega | exact RN_st q_ (by omega) (by omega) (pBt hb_h52 (by omega))) (by first | omega | exact RN_st q_ (by omega) (by omega) (pBt hb_h52 (by omega))) (by first | omega | exact RN_st q_ (by omega) (by omega) (pBt hb_h52 (by omega))) (by first | omega | exact RN_st q_ (by omega) (by omega) (pBt hb_h52 (by omega))) (by first | omega | exact RN_st q_ (by omega) (by omega) (pBt hb_h52 (by omega))) (by first | omega | exact RN_st q_ (by omega) (by omega) (pBt hb_h52 (by omega))) (by omega)) ⟨.inl rfl, .inl rfl, .inl rfl, trivial⟩
        · skip
          refine go_toq PM159 (k := 3) (pc' := 18) (L' := [some (.inr (.inr (some 79))), none, none]) (st' := [.inl (dt36 79 13), .inr (.inr (some 79))]) (w' := (SH, dt36)) rfl ?_
          refine go_callq PM159 PM153 (Q' := _) rfl rfl rfl rfl (sp_X6_see_f L xs sio (d + 5) dt36 hI37  (dt36 79 13) (by first | exact bnd r51 (by decide) (by decide) | exact ⟨by omega, by omega⟩) ) ?_
          rintro _ _ ⟨rfl, h67⟩
          refine ⟨rfl, ?_⟩
          rcases h67 with ⟨v_h67, rfl, h67r, h67⟩ | ⟨rfl, h67⟩
          · skip
            obtain ⟨h67_0, h67_1⟩ := h67
            have hb_h67 : v_h67 = (mB (dt 85) (dt 79 12)) (dt36 79 13).toNat := by have z := h67_1; rw [show dt36 85 = dt 85 from funext (hF38 85 (by decide)), show dt36 79 12 = dt 79 12 by first | assumption | omega] at z; exact z
            refine go_ifq PM159 (k := 1) (p1 := 39) (p2 := 26) (L' := [some (.inr (.inr (some 79))), none, none]) (st' := []) (w' := (SH, dt36)) rfl (c_ne (a := v_h67) (b := 10) (by first | exact bnd h67r (by decide) (by decide) | exact ⟨by omega, by omega⟩) ⟨by decide, by decide⟩) (fun c68 => ?_) (fun c68 => ?_)
            · skip
              exact GO.mono (sp_X6_next0_a0 L xs sio (d + 0) dt36 hI37 (by omega) (by omega) (by rw [show dt36 85 = dt 85 from funext (hF38 85 (by decide)), show dt36 79 12 = dt 79 12 by first | assumption | omega]; first | exact RN_e (.inl (by omega)) | exact RN_e (.inr (pBf hb_h67 (by omega))))) (by rintro r w2 ⟨dt2_, e_, i2_, f2_, r0_, c1_, c2_, k0_, k1_, k2_, k3_, k4_, k5_, k6_⟩; rw [show dt36 85 = dt 85 from funext (hF38 85 (by decide)), show dt36 79 12 = dt 79 12 by first | assumption | omega] at c1_; exact ⟨dt2_, e_, i2_, Fr_tr hF38 f2_ (by decide), r0_, (by rw [q_]; exact c1_), (by omega), (by omega), (by omega), (by omega), (by omega), (by omega), (by omega), (by omega)⟩)
            · skip
              refine go_toq PM159 (k := 5) (pc' := 33) (L' := [some (.inr (.inr (some 79))), none, none]) (st' := [.inl ((dt36 79 13) + 1), .inr (.inr (some 79))]) (w' := (SH, dt36)) rfl ?_
              have hI69 : InvC (u2 dt36 79 13 ((dt36 79 13) + 1)) := InvC_u2 hI37 (lo := 0) (hi := 501) rfl rfl rfl (by omega) (by omega)
              have hF70 : Fr [79] dt (u2 dt36 79 13 ((dt36 79 13) + 1)) := Fr_u2 hF38 (by decide)
              have w71 : (u2 dt36 79 13 ((dt36 79 13) + 1)) 79 13 = (dt36 79 13) + 1 := rfl
              have w72 : (u2 dt36 79 13 ((dt36 79 13) + 1)) 79 14 = dt36 79 14 := rfl
              have w73 : (u2 dt36 79 13 ((dt36 79 13) + 1)) 79 15 = dt36 79 15 := rfl
              have w74 : (u2 dt36 79 13 ((dt36 79 13) + 1)) 79 16 = dt36 79 16 := rfl
              have w75 : (u2 dt36 79 13 ((dt36 79 13) + 1)) 79 2 = dt36 79 2 := rfl
              have w76 : (u2 dt36 79 13 ((dt36 79 13) + 1)) 79 9 = dt36 79 9 := rfl
              have w77 : (u2 dt36 79 13 ((dt36 79 13) + 1)) 79 10 = dt36 79 10 := rfl
              have w78 : (u2 dt36 79 13 ((dt36 79 13) + 1)) 79 11 = dt36 79 11 := rfl
              have w79 : (u2 dt36 79 13 ((dt36 79 13) + 1)) 79 12 = dt36 79 12 := rfl
              have w80 : (u2 dt36 79 13 ((dt36 79 13) + 1)) 79 17 = dt36 79 17 := rfl
              have w81 : (u2 dt36 79 13 ((dt36 79 13) + 1)) 79 20 = dt36 79 20 := rfl
              refine go_smpq PM159 (L' := [some (.inr (.inr (some 79))), none, none]) (st' := []) (w' := (SH, (u2 dt36 79 13 ((dt36 79 13) + 1)))) rfl rfl (s_pf rfl rfl rfl rfl (by first | exact bndp r51 (by decide) (by decide) | exact ⟨by omega, by omega⟩)) ?_
              refine go_toq PM159 (k := 1) (pc' := 0) (L' := [some (.inr (.inr (some 79))), none, none]) (st' := []) (w' := (SH, (u2 dt36 79 13 ((dt36 79 13) + 1)))) rfl ?_
              exact GO.le (ih_loop50 (u2 dt36 79 13 ((dt36 79 13) + 1)) hI69 hF70 (by first | omega | exact RN_st q_ (by omega) (by omega) (pBt hb_h67 (by omega))) (by first | omega | exact RN_st q_ (by omega) (by omega) (pBt hb_h67 (by omega))) (by first | omega | exact RN_st q_ (by omega) (by omega) (pBt hb_h67 (by omega))) (by first | omega | exact RN_st q_ (by omega) (by omega) (pBt hb_h67 (by omega))) (by first | omega | exact RN_st q_ (by omega) (by omega) (pBt hb_h67 (by omega))) (by first | omega | exact RN_st q_ (by omega) (by omega) (pBt hb_h67 (by omega))) (by first | omega | exact RN_st q_ (by omega) (by omega) (pBt hb_h67 (by omega))) (by first | omega | exact RN_st q_ (by omega) (by omega) (pBt hb_h67 (by omega))) (by first | omega | exact RN_st q_ (by omega) (by omega) (pBt hb_h67 (by omega))) (by first | omega | exact RN_st q_ (by omega) (by omega) (pBt hb_h67 (by omega))) (by first | omega | exact RN_st q_ (by omega) (by omega) (pBt hb_h67 (by omega))) (by omega)) ⟨.inl rfl, .inl rfl, .inl rfl, trivial⟩
          · skip
            exfalso; omega
      · skip
        refine go_toq PM159 (k := 5) (pc' := 18) (L' := [some (.inr (.inr (some 79))), none, none]) (st' := [.inl (dt36 79 13), .inr (.inr (some 79))]) (w' := (SH, dt36)) rfl ?_
        refine go_callq PM159 PM153 (Q' := _) rfl rfl rfl rfl (sp_X6_see_f L xs sio (d + 5) dt36 hI37  (dt36 79 13) (by first | exact bnd r51 (by decide) (by decide) | exact ⟨by omega, by omega⟩) ) ?_
        rintro _ _ ⟨rfl, h82⟩
        refine ⟨rfl, ?_⟩
        rcases h82 with ⟨v_h82, rfl, h82r, h82⟩ | ⟨rfl, h82⟩
        · skip
          obtain ⟨h82_0, h82_1⟩ := h82
          exfalso; omega
        · skip
          refine go_toq PM159 (k := 2) (pc' := 39) (L' := [some (.inr (.inr (some 79))), none, none]) (st' := []) (w' := (SH, dt36)) rfl ?_
          exact GO.mono (sp_X6_next0_a0 L xs sio (d + 0) dt36 hI37 (by omega) (by omega) (by rw [show dt36 85 = dt 85 from funext (hF38 85 (by decide)), show dt36 79 12 = dt 79 12 by first | assumption | omega]; first | exact RN_e (.inl (by omega)) | exact RN_e (.inr (pBf hI (by omega))))) (by rintro r w2 ⟨dt2_, e_, i2_, f2_, r0_, c1_, c2_, k0_, k1_, k2_, k3_, k4_, k5_, k6_⟩; rw [show dt36 85 = dt 85 from funext (hF38 85 (by decide)), show dt36 79 12 = dt 79 12 by first | assumption | omega] at c1_; exact ⟨dt2_, e_, i2_, Fr_tr hF38 f2_ (by decide), r0_, (by rw [q_]; exact c1_), (by omega), (by omega), (by omega), (by omega), (by omega), (by omega), (by omega), (by omega)⟩)
  exact GO.le (loop50 _ dt hI hF (by first | omega | exact RN_st q_ (by omega) (by omega) (pBt hI (by omega))) (by first | omega | exact RN_st q_ (by omega) (by omega) (pBt hI (by omega))) (by first | omega | exact RN_st q_ (by omega) (by omega) (pBt hI (by omega))) (by first | omega | exact RN_st q_ (by omega) (by omega) (pBt hI (by omega))) (by first | omega | exact RN_st q_ (by omega) (by omega) (pBt hI (by omega))) (by first | omega | exact RN_st q_ (by omega) (by omega) (pBt hI (by omega))) (by first | omega | exact RN_st q_ (by omega) (by omega) (pBt hI (by omega))) (by first | omega | exact RN_st q_ (by omega) (by omega) (pBt hI (by omega))) (by first | omega | exact RN_st q_ (by omega) (by omega) (pBt hI (by omega))) (by first | omega | exact RN_st q_ (by omega) (by omega) (pBt hI (by omega))) (by first | omega | exact RN_st q_ (by omega) (by omega) (pBt hI (by omega))) (Nat.lt_succ_self _)) ⟨.inl rfl, .inl rfl, .inl rfl, trivial⟩
