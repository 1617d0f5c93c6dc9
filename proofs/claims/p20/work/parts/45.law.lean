set_option maxRecDepth 20000 in
theorem sp_X6_both_f (L : Nat) (xs : Nat → Int32) (sio : Option Nat) (d : Nat) (dt : Nat → Nat → Int) (hI : InvC dt)  (p1 : Int) (h_p1 : (-2147483648) ≤ p1 ∧ p1 ≤ 2147483647) (p2 : Int) (h_p2 : (-2147483648) ≤ p2 ∧ p2 ≤ 2147483647) (p3 : Int) (h_p3 : (-2147483648) ≤ p3 ∧ p3 ≤ 2147483647)  : GO (am_XX L xs sio) (d) 203 0 [some (.inl p1), some (.inl p2), some (.inl p3)] [] (SH, dt) (fun r w2 => w2 = (SH, dt) ∧ ((∃ v : Int, r = some (.inl v) ∧ True ∧ (v = bo p1 p2 p3)))) := by
  have r1 := wr_RR p1
  refine go_toq PM203 (k := 1) (pc' := 1) (L' := [some (.inl p1), some (.inl p2), some (.inl p3)]) (st' := [.inl p1]) (w' := (SH, dt)) rfl ?_
  have e3 : wr p1 = p1 := wr_R ⟨by omega, by omega⟩
  by_cases c2 : wr p1 < 7 ∨ 15 < wr p1
  · refine go_swoq PM203 (p1 := 101) (lo := 7) (hi := 15) rfl rfl c2 ?_
    have r4 : -2147483648 ≤ am_or p2 p3 ∧ am_or p2 p3 ≤ 2147483647 := am_or_R
    refine go_retq PM203 (k := 3) (r := some (.inl (am_or p2 p3))) (w1 := (SH, dt)) rfl ?_
    exact ⟨rfl, ⟨_, rfl, trivial, by (unfold bo; (repeat (first | rw [if_pos (by fail)] | rw [if_neg (by omega)])))⟩⟩
  · have c5 : wr p1 = 7 ∨ wr p1 = 8 ∨ wr p1 = 9 ∨ wr p1 = 10 ∨ wr p1 = 11 ∨ wr p1 = 12 ∨ wr p1 = 13 ∨ wr p1 = 14 ∨ wr p1 = 15 := by omega
    rcases c5 with c5 | c5 | c5 | c5 | c5 | c5 | c5 | c5 | c5
    · refine go_swiq PM203 (v := 7) (p1 := 52) (lo := 7) (hi := 15) rfl c5 (by decide) rfl ?_
      refine go_retq PM203 (k := 3) (r := some (.inl (p2 + p3))) (w1 := (SH, dt)) rfl ?_
      exact ⟨rfl, ⟨_, rfl, trivial, by (unfold bo; (repeat (first | rw [if_pos (by omega)] | rw [if_neg (by fail)])))⟩⟩
    · refine go_swiq PM203 (v := 8) (p1 := 56) (lo := 7) (hi := 15) rfl c5 (by decide) rfl ?_
      refine go_retq PM203 (k := 3) (r := some (.inl (p2 - p3))) (w1 := (SH, dt)) rfl ?_
      exact ⟨rfl, ⟨_, rfl, trivial, by (unfold bo; (repeat (first | rw [if_pos (by omega)] | rw [if_neg (by omega)])))⟩⟩
    · refine go_swiq PM203 (v := 9) (p1 := 60) (lo := 7) (hi := 15) rfl c5 (by decide) rfl ?_
      refine go_retq PM203 (k := 3) (r := some (.inl (p2 * p3))) (w1 := (SH, dt)) rfl ?_
      exact ⟨rfl, ⟨_, rfl, trivial, by (unfold bo; (repeat (first | rw [if_pos (by omega)] | rw [if_neg (by omega)])))⟩⟩
    · refine go_swiq PM203 (v := 10) (p1 := 101) (lo := 7) (hi := 15) rfl c5 (by decide) rfl ?_
      have r6 : -2147483648 ≤ am_or p2 p3 ∧ am_or p2 p3 ≤ 2147483647 := am_or_R
      refine go_retq PM203 (k := 3) (r := some (.inl (am_or p2 p3))) (w1 := (SH, dt)) rfl ?_
      exact ⟨rfl, ⟨_, rfl, trivial, by (unfold bo; (repeat (first | rw [if_pos (by fail)] | rw [if_neg (by omega)])))⟩⟩
    · refine go_swiq PM203 (v := 11) (p1 := 64) (lo := 7) (hi := 15) rfl c5 (by decide) rfl ?_
      refine go_ifq PM203 (k := 2) (p1 := 73) (p2 := 69) (L' := [some (.inl p1), some (.inl p2), some (.inl p3)]) (st' := []) (w' := (SH, dt)) rfl (c_ge (a := p2) (b := p3) (by first | exact bnd h_p2 (by decide) (by decide) | exact ⟨by fail, by fail⟩) (by first | exact bnd h_p3 (by decide) (by decide) | exact ⟨by fail, by fail⟩)) (fun c7 => ?_) (fun c7 => ?_)
      · skip
        refine go_retq PM203 (k := 1) (r := some (.inl 0)) (w1 := (SH, dt)) rfl ?_
        exact ⟨rfl, ⟨_, rfl, trivial, by (unfold bo; (repeat (first | rw [if_pos (by omega)] | rw [if_neg (by omega)])))⟩⟩
      · skip
        refine go_retq PM203 (k := 2) (r := some (.inl 1)) (w1 := (SH, dt)) rfl ?_
        exact ⟨rfl, ⟨_, rfl, trivial, by (unfold bo; (repeat (first | rw [if_pos (by omega)] | rw [if_neg (by omega)])))⟩⟩
    · refine go_swiq PM203 (v := 12) (p1 := 75) (lo := 7) (hi := 15) rfl c5 (by decide) rfl ?_
      refine go_ifq PM203 (k := 2) (p1 := 84) (p2 := 80) (L' := [some (.inl p1), some (.inl p2), some (.inl p3)]) (st' := []) (w' := (SH, dt)) rfl (c_ne (a := p2) (b := p3) (by first | exact bnd h_p2 (by decide) (by decide) | exact ⟨by fail, by fail⟩) (by first | exact bnd h_p3 (by decide) (by decide) | exact ⟨by fail, by fail⟩)) (fun c8 => ?_) (fun c8 => ?_)
      · skip
        replace c8 := hid c8
        refine go_retq PM203 (k := 1) (r := some (.inl 0)) (w1 := (SH, dt)) rfl ?_
        exact ⟨rfl, ⟨_, rfl, trivial, by (unfold bo; (repeat (first | rw [if_pos (by omega)] | rw [if_neg (by (first | omega | (have z0_ := unhid c8; omega)))])))⟩⟩
      · skip
        refine go_retq PM203 (k := 2) (r := some (.inl 1)) (w1 := (SH, dt)) rfl ?_
        exact ⟨rfl, ⟨_, rfl, trivial, by (unfold bo; (repeat (first | rw [if_pos (by omega)] | rw [if_neg (by omega)])))⟩⟩
    · refine go_swiq PM203 (v := 13) (p1 := 86) (lo := 7) (hi := 15) rfl c5 (by decide) rfl ?_
      refine go_ifq PM203 (k := 2) (p1 := 95) (p2 := 91) (L' := [some (.inl p1), some (.inl p2), some (.inl p3)]) (st' := []) (w' := (SH, dt)) rfl (c_le (a := p2) (b := p3) (by first | exact bnd h_p2 (by decide) (by decide) | exact ⟨by fail, by fail⟩) (by first | exact bnd h_p3 (by decide) (by decide) | exact ⟨by fail, by fail⟩)) (fun c9 => ?_) (fun c9 => ?_)
      · skip
        refine go_retq PM203 (k := 1) (r := some (.inl 0)) (w1 := (SH, dt)) rfl ?_
        exact ⟨rfl, ⟨_, rfl, trivial, by (unfold bo; (repeat (first | rw [if_pos (by omega)] | rw [if_neg (by omega)])))⟩⟩
      · skip
        refine go_retq PM203 (k := 2) (r := some (.inl 1)) (w1 := (SH, dt)) rfl ?_
        exact ⟨rfl, ⟨_, rfl, trivial, by (unfold bo; (repeat (first | rw [if_pos (by omega)] | rw [if_neg (by omega)])))⟩⟩
    · refine go_swiq PM203 (v := 14) (p1 := 101) (lo := 7) (hi := 15) rfl c5 (by decide) rfl ?_
      have r10 : -2147483648 ≤ am_or p2 p3 ∧ am_or p2 p3 ≤ 2147483647 := am_or_R
      refine go_retq PM203 (k := 3) (r := some (.inl (am_or p2 p3))) (w1 := (SH, dt)) rfl ?_
      exact ⟨rfl, ⟨_, rfl, trivial, by (unfold bo; (repeat (first | rw [if_pos (by fail)] | rw [if_neg (by omega)])))⟩⟩
    · refine go_swiq PM203 (v := 15) (p1 := 97) (lo := 7) (hi := 15) rfl c5 (by decide) rfl ?_
      have r11 : -2147483648 ≤ am_and p2 p3 ∧ am_and p2 p3 ≤ 2147483647 := am_and_R
      refine go_retq PM203 (k := 3) (r := some (.inl (am_and p2 p3))) (w1 := (SH, dt)) rfl ?_
      exact ⟨rfl, ⟨_, rfl, trivial, by (unfold bo; (repeat (first | rw [if_pos (by omega)] | rw [if_neg (by omega)])))⟩⟩
set_option maxRecDepth 20000 in
theorem sp_X6_comesTo (L : Nat) (xs : Nat → Int32) (sio : Option Nat) (d : Nat) (dt : Nat → Nat → Int) (hI : InvC dt) (hM : MW (dt 80))  (p1 : Int) (h_p1 : 0 ≤ p1 ∧ p1 ≤ 3) (p2 : Int) (h_p2 : 0 ≤ p2 ∧ p2 ≤ 510) (p3 : Int) (h_p3 : 0 ≤ p3 ∧ p3 ≤ 510) (h_p0 : Seg (SG (dt 80) p1.toNat) p2.toNat p3.toNat) : GO (am_XX L xs sio) (d + 1) 204 0 [some (.inr (.inr (some 79))), some (.inl p1), some (.inl p2), some (.inl p3), none, none, none, none] [] (SH, dt) (fun r w2 => ∃ dt2 : Nat → Nat → Int, w2 = (SH, dt2) ∧ InvC dt2 ∧ Fr [86] dt dt2 ∧ ((∃ v : Int, r = some (.inl v) ∧ ((-2147483648) ≤ v ∧ v ≤ 2147483647) ∧ (v = CT (dt 80) (dt 87) p1 p2 p3)))) := by
  have hF : Fr [86] dt dt := Fr_refl
  refine go_toq PM204 (k := 4) (pc' := 6) (L' := [some (.inr (.inr (some 79))), some (.inl p1), some (.inl p2), some (.inl p3), some (.inl 0), some (.inl p2), none, none]) (st' := []) (w' := (SH, dt)) rfl ?_
  have loop36 : ∀ (k_ : Nat) (l6_4 : Int) (l6_5 : Int) (dt28 : Nat → Nat → Int) (hI29 : InvC dt28) (hF30 : Fr [86] dt dt28) (i31 : 0 ≤ l6_4 ∧ l6_4 ≤ 511) (i32 : 0 ≤ l6_5 ∧ l6_5 ≤ 510) (i33 : l6_4 ≤ l6_5 - p2) (i34 : p2 ≤ l6_5) (i35 : CI (dt28 86) (dt 80) (dt 87) p1 p3 l6_5 l6_4 (CT (dt 80) (dt 87) p1 p2 p3)), (p3 - l6_5).toNat < k_ → GO (am_XX L xs sio) (d + 1) 204 6 [some (.inr (.inr (some 79))), some (.inl p1), none, some (.inl p3), some (.inl l6_4), some (.inl l6_5), none, none] [] (SH, dt28) (fun r w2 => ∃ dt2 : Nat → Nat → Int, w2 = (SH, dt2) ∧ InvC dt2 ∧ Fr [86] dt dt2 ∧ ((∃ v : Int, r = some (.inl v) ∧ ((-2147483648) ≤ v ∧ v ≤ 2147483647) ∧ (v = CT (dt 80) (dt 87) p1 p2 p3)))) := by
    intro k_
    induction k_ with
    | zero => intro l6_4 l6_5 dt28 hI29 hF30 i31 i32 i33 i34 i35 hm; exact absurd hm (Nat.not_lt_zero _)
    | succ k_ ih_loop36 =>
      intro l6_4 l6_5 dt28 hI29 hF30 i31 i32 i33 i34 i35 hm
      have hE : l6_5 < p3 → _ := CI_step i35
      refine go_ifq PM204 (k := 2) (p1 := 186) (p2 := 12) (L' := [some (.inr (.inr (some 79))), some (.inl p1), none, some (.inl p3), some (.inl l6_4), some (.inl l6_5), none, none]) (st' := []) (w' := (SH, dt28)) rfl (c_ge (a := l6_5) (b := p3) (by first | exact bnd i32 (by decide) (by decide) | exact ⟨by fail, by fail⟩) (by first | exact bnd h_p3 (by decide) (by decide) | exact ⟨by fail, by fail⟩)) (fun c37 => ?_) (fun c37 => ?_)
      · skip
        refine go_toq PM204 (k := 3) (pc' := 191) (L' := [some (.inr (.inr (some 79))), some (.inl p1), none, some (.inl p3), some (.inl l6_4), some (.inl l6_5), none, none]) (st' := [.inl 0, .inr (.inr (some 86))]) (w' := (SH, dt28)) rfl ?_
        have r38 : (-2147483648) ≤ dt28 86 0 ∧ dt28 86 0 ≤ 2147483647 := InvC_get hI29 86 0 rfl rfl
        refine go_smpq PM204 (L' := [some (.inr (.inr (some 79))), some (.inl p1), none, some (.inl p3), some (.inl l6_4), some (.inl l6_5), none, none]) (st' := [.inl (dt28 86 0)]) (w' := (SH, dt28)) rfl rfl (s_iald (n := 520) (f := dt28 86) rfl ⟨by decide, by decide⟩) ?_
        refine go_retq PM204 (k := 0) (r := some (.inl (dt28 86 0))) (w1 := (SH, dt28)) rfl ?_
        exact ⟨dt28, rfl, hI29, hF30, ⟨_, rfl, (by first | exact bnd r38 (by decide) (by decide) | exact ⟨by fail, by fail⟩), by exact CI_end (by assumption) (by omega)⟩⟩
      · skip
        refine go_toq PM204 (k := 11) (pc' := 30) (L' := [some (.inr (.inr (some 79))), some (.inl p1), none, some (.inl p3), some (.inl l6_4), some (.inl l6_5), none, none]) (st' := [.inl ((1240 + (1020 * p1)) + (2 * l6_5)), .inr (.inr (some 80))]) (w' := (SH, dt28)) rfl ?_
        have r39 : (-2147483648) ≤ dt 80 (((1240 + (1020 * p1)) + (2 * l6_5)).toNat) ∧ dt 80 (((1240 + (1020 * p1)) + (2 * l6_5)).toNat) ≤ 2147483647 := InvC_get hI 80 (((1240 + (1020 * p1)) + (2 * l6_5)).toNat) rfl rfl
        refine go_smpq PM204 (L' := [some (.inr (.inr (some 79))), some (.inl p1), none, some (.inl p3), some (.inl l6_4), some (.inl l6_5), none, none]) (st' := [.inl (dt 80 (((1240 + (1020 * p1)) + (2 * l6_5)).toNat))]) (w' := (SH, dt28)) rfl rfl (s_ev (s_iald (n := 7460) (f := dt28 80) rfl ⟨by omega, by omega⟩) (hF30 80 (by decide) _)) ?_
        refine go_toq PM204 (k := 14) (pc' := 53) (L' := [some (.inr (.inr (some 79))), some (.inl p1), none, some (.inl p3), some (.inl l6_4), some (.inl l6_5), some (.inl (dt 80 (((1240 + (1020 * p1)) + (2 * l6_5)).toNat))), none]) (st' := [.inl (((1240 + (1020 * p1)) + (2 * l6_5)) + 1), .inr (.inr (some 80))]) (w' := (SH, dt28)) rfl ?_
        have r40 : (-2147483648) ≤ dt 80 ((((1240 + (1020 * p1)) + (2 * l6_5)) + 1).toNat) ∧ dt 80 ((((1240 + (1020 * p1)) + (2 * l6_5)) + 1).toNat) ≤ 2147483647 := InvC_get hI 80 ((((1240 + (1020 * p1)) + (2 * l6_5)) + 1).toNat) rfl rfl
        refine go_smpq PM204 (L' := [some (.inr (.inr (some 79))), some (.inl p1), none, some (.inl p3), some (.inl l6_4), some (.inl l6_5), some (.inl (dt 80 (((1240 + (1020 * p1)) + (2 * l6_5)).toNat))), none]) (st' := [.inl (dt 80 ((((1240 + (1020 * p1)) + (2 * l6_5)) + 1).toNat))]) (w' := (SH, dt28)) rfl rfl (s_ev (s_iald (n := 7460) (f := dt28 80) rfl ⟨by omega, by omega⟩) (hF30 80 (by decide) _)) ?_
        refine go_ifq PM204 (k := 3) (p1 := 93) (p2 := 63) (L' := [some (.inr (.inr (some 79))), some (.inl p1), none, some (.inl p3), some (.inl l6_4), some (.inl l6_5), some (.inl (dt 80 (((1240 + (1020 * p1)) + (2 * l6_5)).toNat))), some (.inl (dt 80 ((((1240 + (1020 * p1)) + (2 * l6_5)) + 1).toNat)))]) (st' := []) (w' := (SH, dt28)) rfl (c_ge (a := dt 80 (((1240 + (1020 * p1)) + (2 * l6_5)).toNat)) (b := 7) (by first | exact bnd r39 (by decide) (by decide) | exact ⟨by fail, by fail⟩) ⟨by decide, by decide⟩) (fun c41 => ?_) (fun c41 => ?_)
        · skip
          refine go_ifq PM204 (k := 2) (p1 := 117) (p2 := 100) (L' := [some (.inr (.inr (some 79))), some (.inl p1), none, some (.inl p3), some (.inl l6_4), some (.inl l6_5), some (.inl (dt 80 (((1240 + (1020 * p1)) + (2 * l6_5)).toNat))), some (.inl (dt 80 ((((1240 + (1020 * p1)) + (2 * l6_5)) + 1).toNat)))]) (st' := []) (w' := (SH, dt28)) rfl (c_ne (a := dt 80 (((1240 + (1020 * p1)) + (2 * l6_5)).toNat)) (b := 10) (by first | exact bnd r39 (by decide) (by decide) | exact ⟨by fail, by fail⟩) ⟨by decide, by decide⟩) (fun c42 => ?_) (fun c42 => ?_)
          · skip
            replace c42 := hid c42
            refine go_ifq PM204 (k := 2) (p1 := 147) (p2 := 124) (L' := [some (.inr (.inr (some 79))), some (.inl p1), none, some (.inl p3), some (.inl l6_4), some (.inl l6_5), some (.inl (dt 80 (((1240 + (1020 * p1)) + (2 * l6_5)).toNat))), some (.inl (dt 80 ((((1240 + (1020 * p1)) + (2 * l6_5)) + 1).toNat)))]) (st' := []) (w' := (SH, dt28)) rfl (c_ne (a := dt 80 (((1240 + (1020 * p1)) + (2 * l6_5)).toNat)) (b := 14) (by first | exact bnd r39 (by decide) (by decide) | exact ⟨by fail, by fail⟩) ⟨by decide, by decide⟩) (fun c43 => ?_) (fun c43 => ?_)
            · skip
              replace c43 := hid c43
              refine go_toq PM204 (k := 12) (pc' := 168) (L' := [some (.inr (.inr (some 79))), some (.inl p1), none, some (.inl p3), some (.inl (l6_4 + (-1))), some (.inl l6_5), some (.inl (dt 80 (((1240 + (1020 * p1)) + (2 * l6_5)).toNat))), some (.inl (dt 80 ((((1240 + (1020 * p1)) + (2 * l6_5)) + 1).toNat)))]) (st' := [.inl ((l6_4 + (-1)) - 1), .inr (.inr (some 86)), .inl (dt 80 (((1240 + (1020 * p1)) + (2 * l6_5)).toNat)), .inl ((l6_4 + (-1)) - 1), .inr (.inr (some 86))]) (w' := (SH, dt28)) rfl ?_
              have r44 : (-2147483648) ≤ dt28 86 (((l6_4 + (-1)) - 1).toNat) ∧ dt28 86 (((l6_4 + (-1)) - 1).toNat) ≤ 2147483647 := InvC_get hI29 86 (((l6_4 + (-1)) - 1).toNat) rfl rfl
              refine go_smpq PM204 (L' := [some (.inr (.inr (some 79))), some (.inl p1), none, some (.inl p3), some (.inl (l6_4 + (-1))), some (.inl l6_5), some (.inl (dt 80 (((1240 + (1020 * p1)) + (2 * l6_5)).toNat))), some (.inl (dt 80 ((((1240 + (1020 * p1)) + (2 * l6_5)) + 1).toNat)))]) (st' := [.inl (dt28 86 (((l6_4 + (-1)) - 1).toNat)), .inl (dt 80 (((1240 + (1020 * p1)) + (2 * l6_5)).toNat)), .inl ((l6_4 + (-1)) - 1), .inr (.inr (some 86))]) (w' := (SH, dt28)) rfl rfl (s_iald (n := 520) (f := dt28 86) rfl ⟨by (have z0_ := unhid c42; have z1_ := unhid c43; omega), by omega⟩) ?_
              refine go_toq PM204 (k := 3) (pc' := 175) (L' := [some (.inr (.inr (some 79))), some (.inl p1), none, some (.inl p3), some (.inl (l6_4 + (-1))), some (.inl l6_5), some (.inl (dt 80 (((1240 + (1020 * p1)) + (2 * l6_5)).toNat))), some (.inl (dt 80 ((((1240 + (1020 * p1)) + (2 * l6_5)) + 1).toNat)))]) (st' := [.inl (l6_4 + (-1)), .inr (.inr (some 86)), .inl (dt28 86 (((l6_4 + (-1)) - 1).toNat)), .inl (dt 80 (((1240 + (1020 * p1)) + (2 * l6_5)).toNat)), .inl ((l6_4 + (-1)) - 1), .inr (.inr (some 86))]) (w' := (SH, dt28)) rfl ?_
              have r45 : (-2147483648) ≤ dt28 86 ((l6_4 + (-1)).toNat) ∧ dt28 86 ((l6_4 + (-1)).toNat) ≤ 2147483647 := InvC_get hI29 86 ((l6_4 + (-1)).toNat) rfl rfl
              refine go_smpq PM204 (L' := [some (.inr (.inr (some 79))), some (.inl p1), none, some (.inl p3), some (.inl (l6_4 + (-1))), some (.inl l6_5), some (.inl (dt 80 (((1240 + (1020 * p1)) + (2 * l6_5)).toNat))), some (.inl (dt 80 ((((1240 + (1020 * p1)) + (2 * l6_5)) + 1).toNat)))]) (st' := [.inl (dt28 86 ((l6_4 + (-1)).toNat)), .inl (dt28 86 (((l6_4 + (-1)) - 1).toNat)), .inl (dt 80 (((1240 + (1020 * p1)) + (2 * l6_5)).toNat)), .inl ((l6_4 + (-1)) - 1), .inr (.inr (some 86))]) (w' := (SH, dt28)) rfl rfl (s_iald (n := 520) (f := dt28 86) rfl ⟨by omega, by omega⟩) ?_
              refine go_callq PM204 PM203 (Q' := _) rfl rfl rfl rfl (sp_X6_both_f L xs sio (d + 0) dt28 hI29  (dt 80 (((1240 + (1020 * p1)) + (2 * l6_5)).toNat)) (by first | exact bnd r39 (by decide) (by decide) | exact ⟨by fail, by fail⟩) (dt28 86 (((l6_4 + (-1)) - 1).toNat)) (by first | exact bnd r44 (by decide) (by decide) | exact ⟨by fail, by fail⟩) (dt28 86 ((l6_4 + (-1)).toNat)) (by first | exact bnd r45 (by decide) (by decide) | exact ⟨by fail, by fail⟩) ) ?_
              rintro _ _ ⟨rfl, h46⟩
              refine ⟨rfl, ?_⟩
              rcases h46 with ⟨v_h46, rfl, h46r, h46⟩
              have r47 := wr_RR v_h46
              have hI48 : InvC (u2 dt28 86 (((l6_4 + (-1)) - 1).toNat) (wr v_h46)) := InvC_u2 hI29 (lo := -2147483648) (hi := 2147483647) rfl rfl rfl (by omega) (by omega)
              have hF49 : Fr [86] dt (u2 dt28 86 (((l6_4 + (-1)) - 1).toNat) (wr v_h46)) := Fr_u2 hF30 (by decide)
              refine go_smpq PM204 (L' := [some (.inr (.inr (some 79))), some (.inl p1), none, some (.inl p3), some (.inl (l6_4 + (-1))), some (.inl l6_5), some (.inl (dt 80 (((1240 + (1020 * p1)) + (2 * l6_5)).toNat))), some (.inl (dt 80 ((((1240 + (1020 * p1)) + (2 * l6_5)) + 1).toNat)))]) (st' := []) (w' := (SH, (u2 dt28 86 (((l6_4 + (-1)) - 1).toNat) (wr v_h46)))) rfl rfl (s_iastw (n := 520) rfl ⟨by (have z0_ := unhid c42; have z1_ := unhid c43; omega), by omega⟩) ?_
              refine go_toq PM204 (k := 2) (pc' := 6) (L' := [some (.inr (.inr (some 79))), some (.inl p1), none, some (.inl p3), some (.inl (l6_4 + (-1))), some (.inl (l6_5 + 1)), some (.inl (dt 80 (((1240 + (1020 * p1)) + (2 * l6_5)).toNat))), some (.inl (dt 80 ((((1240 + (1020 * p1)) + (2 * l6_5)) + 1).toNat)))]) (st' := []) (w' := (SH, (u2 dt28 86 (((l6_4 + (-1)) - 1).toNat) (wr v_h46)))) rfl ?_
              exact GO.le (ih_loop36 (l6_4 + (-1)) (l6_5 + 1) (u2 dt28 86 (((l6_4 + (-1)) - 1).toNat) (wr v_h46)) hI48 hF49 (by first | with_reducible assumption | exact unhid (by with_reducible assumption) | omega | exact CI_push (by assumption) (by fail) (by fail) (by first | (rw [if_pos (by fail)]) | (rw [if_neg (by fail)])) (fun j hj => u2_ne (fun z => hj z.2)) u2_eq | exact CI_div (by assumption) (by fail) (by fail) rfl (fun j hj => u2_ne (fun z => hj z.2)) u2_eq | exact CI_not (by assumption) (by fail) (by fail) rfl (fun j hj => u2_ne (fun z => hj z.2)) u2_eq | exact CI_0 (by fail) (by fail) h_p0 (by fail) | exact CI_bin (by assumption) (by fail) (by fail) (congrArg wr (by assumption)) (fun j hj => u2_ne (fun z => hj z.2)) u2_eq) (by first | with_reducible assumption | exact unhid (by with_reducible assumption) | omega | exact CI_push (by assumption) (by fail) (by fail) (by first | (rw [if_pos (by fail)]) | (rw [if_neg (by fail)])) (fun j hj => u2_ne (fun z => hj z.2)) u2_eq | exact CI_div (by assumption) (by fail) (by fail) rfl (fun j hj => u2_ne (fun z => hj z.2)) u2_eq | exact CI_not (by assumption) (by fail) (by fail) rfl (fun j hj => u2_ne (fun z => hj z.2)) u2_eq | exact CI_0 (by fail) (by fail) h_p0 (by fail) | exact CI_bin (by assumption) (by fail) (by fail) (congrArg wr (by assumption)) (fun j hj => u2_ne (fun z => hj z.2)) u2_eq) (by first | with_reducible assumption | exact unhid (by with_reducible assumption) | omega | exact CI_push (by assumption) (by fail) (by fail) (by first | (rw [if_pos (by fail)]) | (rw [if_neg (by fail)])) (fun j hj => u2_ne (fun z => hj z.2)) u2_eq | exact CI_div (by assumption) (by fail) (by fail) rfl (fun j hj => u2_ne (fun z => hj z.2)) u2_eq | exact CI_not (by assumption) (by fail) (by fail) rfl (fun j hj => u2_ne (fun z => hj z.2)) u2_eq | exact CI_0 (by fail) (by fail) h_p0 (by fail) | exact CI_bin (by assumption) (by fail) (by fail) (congrArg wr (by assumption)) (fun j hj => u2_ne (fun z => hj z.2)) u2_eq) (by first | with_reducible assumption | exact unhid (by with_reducible assumption) | omega | exact CI_push (by assumption) (by fail) (by fail) (by first | (rw [if_pos (by fail)]) | (rw [if_neg (by fail)])) (fun j hj => u2_ne (fun z => hj z.2)) u2_eq | exact CI_div (by assumption) (by fail) (by fail) rfl (fun j hj => u2_ne (fun z => hj z.2)) u2_eq | exact CI_not (by assumption) (by fail) (by fail) rfl (fun j hj => u2_ne (fun z => hj z.2)) u2_eq | exact CI_0 (by fail) (by fail) h_p0 (by fail) | exact CI_bin (by assumption) (by fail) (by fail) (congrArg wr (by assumption)) (fun j hj => u2_ne (fun z => hj z.2)) u2_eq) (by first | with_reducible assumption | exact unhid (by with_reducible assumption) | fail | exact CI_push (by assumption) (by omega) (by fail) (by first | (rw [if_pos (by fail)]) | (rw [if_neg (by fail)])) (fun j hj => u2_ne (fun z => hj z.2)) u2_eq | exact CI_div (by assumption) (by fail) (by fail) rfl (fun j hj => u2_ne (fun z => hj z.2)) u2_eq | exact CI_not (by assumption) (by fail) (by fail) rfl (fun j hj => u2_ne (fun z => hj z.2)) u2_eq | exact CI_0 (by omega) (by omega) h_p0 (by omega) | exact CI_bin (by assumption) (by omega) (by (have z0_ := unhid c42; have z1_ := unhid c43; omega)) (congrArg wr (by assumption)) (fun j hj => u2_ne (fun z => hj z.2)) u2_eq) (by omega)) ⟨.inl rfl, .inl rfl, .inl rfl, .inl rfl, .inl rfl, .inl rfl, .inr ⟨rfl, trivial⟩, .inr ⟨rfl, trivial⟩, trivial⟩
            · skip
              refine go_toq PM204 (k := 11) (pc' := 141) (L' := [some (.inr (.inr (some 79))), some (.inl p1), none, some (.inl p3), some (.inl l6_4), some (.inl l6_5), some (.inl (dt 80 (((1240 + (1020 * p1)) + (2 * l6_5)).toNat))), some (.inl (dt 80 ((((1240 + (1020 * p1)) + (2 * l6_5)) + 1).toNat)))]) (st' := [.inl (l6_4 - 1), .inr (.inr (some 86)), .inl 1, .inl (l6_4 - 1), .inr (.inr (some 86))]) (w' := (SH, dt28)) rfl ?_
              have r50 : (-2147483648) ≤ dt28 86 ((l6_4 - 1).toNat) ∧ dt28 86 ((l6_4 - 1).toNat) ≤ 2147483647 := InvC_get hI29 86 ((l6_4 - 1).toNat) rfl rfl
              refine go_smpq PM204 (L' := [some (.inr (.inr (some 79))), some (.inl p1), none, some (.inl p3), some (.inl l6_4), some (.inl l6_5), some (.inl (dt 80 (((1240 + (1020 * p1)) + (2 * l6_5)).toNat))), some (.inl (dt 80 ((((1240 + (1020 * p1)) + (2 * l6_5)) + 1).toNat)))]) (st' := [.inl (dt28 86 ((l6_4 - 1).toNat)), .inl 1, .inl (l6_4 - 1), .inr (.inr (some 86))]) (w' := (SH, dt28)) rfl rfl (s_iald (n := 520) (f := dt28 86) rfl ⟨by omega, by omega⟩) ?_
              refine go_toq PM204 (k := 1) (pc' := 143) (L' := [some (.inr (.inr (some 79))), some (.inl p1), none, some (.inl p3), some (.inl l6_4), some (.inl l6_5), some (.inl (dt 80 (((1240 + (1020 * p1)) + (2 * l6_5)).toNat))), some (.inl (dt 80 ((((1240 + (1020 * p1)) + (2 * l6_5)) + 1).toNat)))]) (st' := [.inl (1 - (dt28 86 ((l6_4 - 1).toNat))), .inl (l6_4 - 1), .inr (.inr (some 86))]) (w' := (SH, dt28)) rfl ?_
              have r51 := wr_RR (1 - (dt28 86 ((l6_4 - 1).toNat)))
              have hI52 : InvC (u2 dt28 86 ((l6_4 - 1).toNat) (wr (1 - (dt28 86 ((l6_4 - 1).toNat))))) := InvC_u2 hI29 (lo := -2147483648) (hi := 2147483647) rfl rfl rfl (by omega) (by omega)
              have hF53 : Fr [86] dt (u2 dt28 86 ((l6_4 - 1).toNat) (wr (1 - (dt28 86 ((l6_4 - 1).toNat))))) := Fr_u2 hF30 (by decide)
              refine go_smpq PM204 (L' := [some (.inr (.inr (some 79))), some (.inl p1), none, some (.inl p3), some (.inl l6_4), some (.inl l6_5), some (.inl (dt 80 (((1240 + (1020 * p1)) + (2 * l6_5)).toNat))), some (.inl (dt 80 ((((1240 + (1020 * p1)) + (2 * l6_5)) + 1).toNat)))]) (st' := []) (w' := (SH, (u2 dt28 86 ((l6_4 - 1).toNat) (wr (1 - (dt28 86 ((l6_4 - 1).toNat))))))) rfl rfl (s_iastw (n := 520) rfl ⟨by omega, by omega⟩) ?_
              refine go_toq PM204 (k := 3) (pc' := 6) (L' := [some (.inr (.inr (some 79))), some (.inl p1), none, some (.inl p3), some (.inl l6_4), some (.inl (l6_5 + 1)), some (.inl (dt 80 (((1240 + (1020 * p1)) + (2 * l6_5)).toNat))), some (.inl (dt 80 ((((1240 + (1020 * p1)) + (2 * l6_5)) + 1).toNat)))]) (st' := []) (w' := (SH, (u2 dt28 86 ((l6_4 - 1).toNat) (wr (1 - (dt28 86 ((l6_4 - 1).toNat))))))) rfl ?_
              exact GO.le (ih_loop36 l6_4 (l6_5 + 1) (u2 dt28 86 ((l6_4 - 1).toNat) (wr (1 - (dt28 86 ((l6_4 - 1).toNat))))) hI52 hF53 (by first | with_reducible assumption | exact unhid (by with_reducible assumption) | fail | exact CI_push (by assumption) (by fail) (by fail) (by first | (rw [if_pos (by fail)]) | (rw [if_neg (by fail)])) (fun j hj => u2_ne (fun z => hj z.2)) u2_eq | exact CI_div (by assumption) (by fail) (by fail) rfl (fun j hj => u2_ne (fun z => hj z.2)) u2_eq | exact CI_not (by assumption) (by fail) (by fail) rfl (fun j hj => u2_ne (fun z => hj z.2)) u2_eq | exact CI_0 (by fail) (by fail) h_p0 (by fail) | exact CI_bin (by assumption) (by fail) (by fail) (congrArg wr (by assumption)) (fun j hj => u2_ne (fun z => hj z.2)) u2_eq) (by first | with_reducible assumption | exact unhid (by with_reducible assumption) | omega | exact CI_push (by assumption) (by fail) (by fail) (by first | (rw [if_pos (by fail)]) | (rw [if_neg (by fail)])) (fun j hj => u2_ne (fun z => hj z.2)) u2_eq | exact CI_div (by assumption) (by fail) (by fail) rfl (fun j hj => u2_ne (fun z => hj z.2)) u2_eq | exact CI_not (by assumption) (by fail) (by fail) rfl (fun j hj => u2_ne (fun z => hj z.2)) u2_eq | exact CI_0 (by fail) (by fail) h_p0 (by fail) | exact CI_bin (by assumption) (by fail) (by fail) (congrArg wr (by assumption)) (fun j hj => u2_ne (fun z => hj z.2)) u2_eq) (by first | with_reducible assumption | exact unhid (by with_reducible assumption) | omega | exact CI_push (by assumption) (by fail) (by fail) (by first | (rw [if_pos (by fail)]) | (rw [if_neg (by fail)])) (fun j hj => u2_ne (fun z => hj z.2)) u2_eq | exact CI_div (by assumption) (by fail) (by fail) rfl (fun j hj => u2_ne (fun z => hj z.2)) u2_eq | exact CI_not (by assumption) (by fail) (by fail) rfl (fun j hj => u2_ne (fun z => hj z.2)) u2_eq | exact CI_0 (by fail) (by fail) h_p0 (by fail) | exact CI_bin (by assumption) (by fail) (by fail) (congrArg wr (by assumption)) (fun j hj => u2_ne (fun z => hj z.2)) u2_eq) (by first | with_reducible assumption | exact unhid (by with_reducible assumption) | omega | exact CI_push (by assumption) (by fail) (by fail) (by first | (rw [if_pos (by fail)]) | (rw [if_neg (by fail)])) (fun j hj => u2_ne (fun z => hj z.2)) u2_eq | exact CI_div (by assumption) (by fail) (by fail) rfl (fun j hj => u2_ne (fun z => hj z.2)) u2_eq | exact CI_not (by assumption) (by fail) (by fail) rfl (fun j hj => u2_ne (fun z => hj z.2)) u2_eq | exact CI_0 (by fail) (by fail) h_p0 (by fail) | exact CI_bin (by assumption) (by fail) (by fail) (congrArg wr (by assumption)) (fun j hj => u2_ne (fun z => hj z.2)) u2_eq) (by first | with_reducible assumption | exact unhid (by with_reducible assumption) | fail | exact CI_push (by assumption) (by omega) (by fail) (by first | (rw [if_pos (by fail)]) | (rw [if_neg (by fail)])) (fun j hj => u2_ne (fun z => hj z.2)) u2_eq | exact CI_div (by assumption) (by omega) (by fail) rfl (fun j hj => u2_ne (fun z => hj z.2)) u2_eq | exact CI_not (by assumption) (by omega) (by omega) rfl (fun j hj => u2_ne (fun z => hj z.2)) u2_eq | exact CI_0 (by fail) (by fail) h_p0 (by fail) | exact CI_bin (by assumption) (by fail) (by fail) (congrArg wr (by assumption)) (fun j hj => u2_ne (fun z => hj z.2)) u2_eq) (by omega)) ⟨.inl rfl, .inl rfl, .inl rfl, .inl rfl, .inl rfl, .inl rfl, .inr ⟨rfl, trivial⟩, .inr ⟨rfl, trivial⟩, trivial⟩
          · skip
            refine go_toq PM204 (k := 6) (pc' := 109) (L' := [some (.inr (.inr (some 79))), some (.inl p1), none, some (.inl p3), some (.inl l6_4), some (.inl l6_5), some (.inl (dt 80 (((1240 + (1020 * p1)) + (2 * l6_5)).toNat))), some (.inl (dt 80 ((((1240 + (1020 * p1)) + (2 * l6_5)) + 1).toNat)))]) (st' := [.inl (l6_4 - 1), .inr (.inr (some 86)), .inl (l6_4 - 1), .inr (.inr (some 86))]) (w' := (SH, dt28)) rfl ?_
            have r54 : (-2147483648) ≤ dt28 86 ((l6_4 - 1).toNat) ∧ dt28 86 ((l6_4 - 1).toNat) ≤ 2147483647 := InvC_get hI29 86 ((l6_4 - 1).toNat) rfl rfl
            refine go_smpq PM204 (L' := [some (.inr (.inr (some 79))), some (.inl p1), none, some (.inl p3), some (.inl l6_4), some (.inl l6_5), some (.inl (dt 80 (((1240 + (1020 * p1)) + (2 * l6_5)).toNat))), some (.inl (dt 80 ((((1240 + (1020 * p1)) + (2 * l6_5)) + 1).toNat)))]) (st' := [.inl (dt28 86 ((l6_4 - 1).toNat)), .inl (l6_4 - 1), .inr (.inr (some 86))]) (w' := (SH, dt28)) rfl rfl (s_iald (n := 520) (f := dt28 86) rfl ⟨by omega, by omega⟩) ?_
            refine go_toq PM204 (k := 1) (pc' := 112) (L' := [some (.inr (.inr (some 79))), some (.inl p1), none, some (.inl p3), some (.inl l6_4), some (.inl l6_5), some (.inl (dt 80 (((1240 + (1020 * p1)) + (2 * l6_5)).toNat))), some (.inl (dt 80 ((((1240 + (1020 * p1)) + (2 * l6_5)) + 1).toNat)))]) (st' := [.inl (dt 80 ((((1240 + (1020 * p1)) + (2 * l6_5)) + 1).toNat)), .inl (dt28 86 ((l6_4 - 1).toNat)), .inl (l6_4 - 1), .inr (.inr (some 86))]) (w' := (SH, dt28)) rfl ?_
            refine go_smpq PM204 (L' := [some (.inr (.inr (some 79))), some (.inl p1), none, some (.inl p3), some (.inl l6_4), some (.inl l6_5), some (.inl (dt 80 (((1240 + (1020 * p1)) + (2 * l6_5)).toNat))), some (.inl (dt 80 ((((1240 + (1020 * p1)) + (2 * l6_5)) + 1).toNat)))]) (st' := [.inl ((wr (dt28 86 ((l6_4 - 1).toNat))).tdiv (wr (dt 80 ((((1240 + (1020 * p1)) + (2 * l6_5)) + 1).toNat)))), .inl (l6_4 - 1), .inr (.inr (some 86))]) (w' := (SH, dt28)) rfl rfl (s_idiv (by rw [wr_R ⟨by omega, by omega⟩]; omega)) ?_
            have r55 := wr_RR ((wr (dt28 86 ((l6_4 - 1).toNat))).tdiv (wr (dt 80 ((((1240 + (1020 * p1)) + (2 * l6_5)) + 1).toNat))))
            have hI56 : InvC (u2 dt28 86 ((l6_4 - 1).toNat) (wr ((wr (dt28 86 ((l6_4 - 1).toNat))).tdiv (wr (dt 80 ((((1240 + (1020 * p1)) + (2 * l6_5)) + 1).toNat)))))) := InvC_u2 hI29 (lo := -2147483648) (hi := 2147483647) rfl rfl rfl (by omega) (by omega)
            have hF57 : Fr [86] dt (u2 dt28 86 ((l6_4 - 1).toNat) (wr ((wr (dt28 86 ((l6_4 - 1).toNat))).tdiv (wr (dt 80 ((((1240 + (1020 * p1)) + (2 * l6_5)) + 1).toNat)))))) := Fr_u2 hF30 (by decide)
            refine go_smpq PM204 (L' := [some (.inr (.inr (some 79))), some (.inl p1), none, some (.inl p3), some (.inl l6_4), some (.inl l6_5), some (.inl (dt 80 (((1240 + (1020 * p1)) + (2 * l6_5)).toNat))), some (.inl (dt 80 ((((1240 + (1020 * p1)) + (2 * l6_5)) + 1).toNat)))]) (st' := []) (w' := (SH, (u2 dt28 86 ((l6_4 - 1).toNat) (wr ((wr (dt28 86 ((l6_4 - 1).toNat))).tdiv (wr (dt 80 ((((1240 + (1020 * p1)) + (2 * l6_5)) + 1).toNat)))))))) rfl rfl (s_iastw (n := 520) rfl ⟨by omega, by omega⟩) ?_
            refine go_toq PM204 (k := 3) (pc' := 6) (L' := [some (.inr (.inr (some 79))), some (.inl p1), none, some (.inl p3), some (.inl l6_4), some (.inl (l6_5 + 1)), some (.inl (dt 80 (((1240 + (1020 * p1)) + (2 * l6_5)).toNat))), some (.inl (dt 80 ((((1240 + (1020 * p1)) + (2 * l6_5)) + 1).toNat)))]) (st' := []) (w' := (SH, (u2 dt28 86 ((l6_4 - 1).toNat) (wr ((wr (dt28 86 ((l6_4 - 1).toNat))).tdiv (wr (dt 80 ((((1240 + (1020 * p1)) + (2 * l6_5)) + 1).toNat)))))))) rfl ?_
            exact GO.le (ih_loop36 l6_4 (l6_5 + 1) (u2 dt28 86 ((l6_4 - 1).toNat) (wr ((wr (dt28 86 ((l6_4 - 1).toNat))).tdiv (wr (dt 80 ((((1240 + (1020 * p1)) + (2 * l6_5)) + 1).toNat)))))) hI56 hF57 (by first | with_reducible assumption | fail | exact CI_push (by assumption) (by fail) (by fail) (by first | (rw [if_pos (by fail)]) | (rw [if_neg (by fail)])) (fun j hj => u2_ne (fun z => hj z.2)) u2_eq | exact CI_div (by assumption) (by fail) (by fail) rfl (fun j hj => u2_ne (fun z => hj z.2)) u2_eq | exact CI_not (by assumption) (by fail) (by fail) rfl (fun j hj => u2_ne (fun z => hj z.2)) u2_eq | exact CI_0 (by fail) (by fail) h_p0 (by fail) | exact CI_bin (by assumption) (by fail) (by fail) (congrArg wr (by assumption)) (fun j hj => u2_ne (fun z => hj z.2)) u2_eq) (by first | with_reducible assumption | omega | exact CI_push (by assumption) (by fail) (by fail) (by first | (rw [if_pos (by fail)]) | (rw [if_neg (by fail)])) (fun j hj => u2_ne (fun z => hj z.2)) u2_eq | exact CI_div (by assumption) (by fail) (by fail) rfl (fun j hj => u2_ne (fun z => hj z.2)) u2_eq | exact CI_not (by assumption) (by fail) (by fail) rfl (fun j hj => u2_ne (fun z => hj z.2)) u2_eq | exact CI_0 (by fail) (by fail) h_p0 (by fail) | exact CI_bin (by assumption) (by fail) (by fail) (congrArg wr (by assumption)) (fun j hj => u2_ne (fun z => hj z.2)) u2_eq) (by first | with_reducible assumption | omega | exact CI_push (by assumption) (by fail) (by fail) (by first | (rw [if_pos (by fail)]) | (rw [if_neg (by fail)])) (fun j hj => u2_ne (fun z => hj z.2)) u2_eq | exact CI_div (by assumption) (by fail) (by fail) rfl (fun j hj => u2_ne (fun z => hj z.2)) u2_eq | exact CI_not (by assumption) (by fail) (by fail) rfl (fun j hj => u2_ne (fun z => hj z.2)) u2_eq | exact CI_0 (by fail) (by fail) h_p0 (by fail) | exact CI_bin (by assumption) (by fail) (by fail) (congrArg wr (by assumption)) (fun j hj => u2_ne (fun z => hj z.2)) u2_eq) (by first | with_reducible assumption | omega | exact CI_push (by assumption) (by fail) (by fail) (by first | (rw [if_pos (by fail)]) | (rw [if_neg (by fail)])) (fun j hj => u2_ne (fun z => hj z.2)) u2_eq | exact CI_div (by assumption) (by fail) (by fail) rfl (fun j hj => u2_ne (fun z => hj z.2)) u2_eq | exact CI_not (by assumption) (by fail) (by fail) rfl (fun j hj => u2_ne (fun z => hj z.2)) u2_eq | exact CI_0 (by fail) (by fail) h_p0 (by fail) | exact CI_bin (by assumption) (by fail) (by fail) (congrArg wr (by assumption)) (fun j hj => u2_ne (fun z => hj z.2)) u2_eq) (by first | with_reducible assumption | fail | exact CI_push (by assumption) (by omega) (by fail) (by first | (rw [if_pos (by fail)]) | (rw [if_neg (by fail)])) (fun j hj => u2_ne (fun z => hj z.2)) u2_eq | exact CI_div (by assumption) (by omega) (by omega) rfl (fun j hj => u2_ne (fun z => hj z.2)) u2_eq | exact CI_not (by assumption) (by fail) (by fail) rfl (fun j hj => u2_ne (fun z => hj z.2)) u2_eq | exact CI_0 (by fail) (by fail) h_p0 (by fail) | exact CI_bin (by assumption) (by fail) (by fail) (congrArg wr (by assumption)) (fun j hj => u2_ne (fun z => hj z.2)) u2_eq) (by omega)) ⟨.inl rfl, .inl rfl, .inl rfl, .inl rfl, .inl rfl, .inl rfl, .inr ⟨rfl, trivial⟩, .inr ⟨rfl, trivial⟩, trivial⟩
        · skip
          refine go_ifq PM204 (k := 4) (p1 := 79) (p2 := 74) (L' := [some (.inr (.inr (some 79))), some (.inl p1), none, some (.inl p3), some (.inl l6_4), some (.inl l6_5), some (.inl (dt 80 (((1240 + (1020 * p1)) + (2 * l6_5)).toNat))), some (.inl (dt 80 ((((1240 + (1020 * p1)) + (2 * l6_5)) + 1).toNat)))]) (st' := [.inl l6_4, .inr (.inr (some 86))]) (w' := (SH, dt28)) rfl (z_ne (a := dt 80 (((1240 + (1020 * p1)) + (2 * l6_5)).toNat)) (by first | exact bnd r39 (by decide) (by decide) | exact bndd r39 c41 (by decide) (by decide) | exact ⟨by fail, by fail⟩)) (fun c58 => ?_) (fun c58 => ?_)
          · skip
            replace c58 := hid c58
            refine go_toq PM204 (k := 3) (pc' := 85) (L' := [some (.inr (.inr (some 79))), some (.inl p1), none, some (.inl p3), some (.inl l6_4), some (.inl l6_5), some (.inl (dt 80 (((1240 + (1020 * p1)) + (2 * l6_5)).toNat))), some (.inl (dt 80 ((((1240 + (1020 * p1)) + (2 * l6_5)) + 1).toNat)))]) (st' := [.inl (dt 80 (((1240 + (1020 * p1)) + (2 * l6_5)).toNat)), .inr (.inr (some 87)), .inl l6_4, .inr (.inr (some 86))]) (w' := (SH, dt28)) rfl ?_
            have r59 : (-2147483648) ≤ dt 87 ((dt 80 (((1240 + (1020 * p1)) + (2 * l6_5)).toNat)).toNat) ∧ dt 87 ((dt 80 (((1240 + (1020 * p1)) + (2 * l6_5)).toNat)).toNat) ≤ 2147483647 := InvC_get hI 87 ((dt 80 (((1240 + (1020 * p1)) + (2 * l6_5)).toNat)).toNat) rfl rfl
            refine go_smpq PM204 (L' := [some (.inr (.inr (some 79))), some (.inl p1), none, some (.inl p3), some (.inl l6_4), some (.inl l6_5), some (.inl (dt 80 (((1240 + (1020 * p1)) + (2 * l6_5)).toNat))), some (.inl (dt 80 ((((1240 + (1020 * p1)) + (2 * l6_5)) + 1).toNat)))]) (st' := [.inl (dt 87 ((dt 80 (((1240 + (1020 * p1)) + (2 * l6_5)).toNat)).toNat)), .inl l6_4, .inr (.inr (some 86))]) (w' := (SH, dt28)) rfl rfl (s_ev (s_iald (n := 7) (f := dt28 87) rfl (by first | exact bndc r39 c41 (by decide) (by decide) | exact bndx r39 (by decide) (by decide) | exact ⟨by omega, by omega⟩)) (hF30 87 (by decide) _)) ?_
            have hI60 : InvC (u2 dt28 86 (l6_4).toNat (dt 87 ((dt 80 (((1240 + (1020 * p1)) + (2 * l6_5)).toNat)).toNat))) := InvC_u2 hI29 (lo := -2147483648) (hi := 2147483647) rfl rfl rfl (by first | exact bnd1 r59 (by decide) | fail) (by first | exact bnd2 r59 (by decide) | fail)
            have hF61 : Fr [86] dt (u2 dt28 86 (l6_4).toNat (dt 87 ((dt 80 (((1240 + (1020 * p1)) + (2 * l6_5)).toNat)).toNat))) := Fr_u2 hF30 (by decide)
            refine go_smpq PM204 (L' := [some (.inr (.inr (some 79))), some (.inl p1), none, some (.inl p3), some (.inl l6_4), some (.inl l6_5), some (.inl (dt 80 (((1240 + (1020 * p1)) + (2 * l6_5)).toNat))), some (.inl (dt 80 ((((1240 + (1020 * p1)) + (2 * l6_5)) + 1).toNat)))]) (st' := []) (w' := (SH, (u2 dt28 86 (l6_4).toNat (dt 87 ((dt 80 (((1240 + (1020 * p1)) + (2 * l6_5)).toNat)).toNat))))) rfl rfl (s_iast (n := 520) rfl (by first | exact bndx i31 (by decide) (by decide) | exact ⟨by fail, by fail⟩) (by first | exact bnd r59 (by decide) (by decide) | exact ⟨by fail, by fail⟩)) ?_
            refine go_toq PM204 (k := 4) (pc' := 6) (L' := [some (.inr (.inr (some 79))), some (.inl p1), none, some (.inl p3), some (.inl (l6_4 + 1)), some (.inl (l6_5 + 1)), some (.inl (dt 80 (((1240 + (1020 * p1)) + (2 * l6_5)).toNat))), some (.inl (dt 80 ((((1240 + (1020 * p1)) + (2 * l6_5)) + 1).toNat)))]) (st' := []) (w' := (SH, (u2 dt28 86 (l6_4).toNat (dt 87 ((dt 80 (((1240 + (1020 * p1)) + (2 * l6_5)).toNat)).toNat))))) rfl ?_
            exact GO.le (ih_loop36 (l6_4 + 1) (l6_5 + 1) (u2 dt28 86 (l6_4).toNat (dt 87 ((dt 80 (((1240 + (1020 * p1)) + (2 * l6_5)).toNat)).toNat))) hI60 hF61 (by first | with_reducible assumption | exact unhid (by with_reducible assumption) | omega | exact CI_push (by assumption) (by fail) (by fail) (by first | (rw [if_pos (by fail)]) | (rw [if_neg (by fail)])) (fun j hj => u2_ne (fun z => hj z.2)) u2_eq | exact CI_div (by assumption) (by fail) (by fail) rfl (fun j hj => u2_ne (fun z => hj z.2)) u2_eq | exact CI_not (by assumption) (by fail) (by fail) rfl (fun j hj => u2_ne (fun z => hj z.2)) u2_eq | exact CI_0 (by fail) (by fail) h_p0 (by fail) | exact CI_bin (by assumption) (by fail) (by fail) (congrArg wr (by assumption)) (fun j hj => u2_ne (fun z => hj z.2)) u2_eq) (by first | with_reducible assumption | exact unhid (by with_reducible assumption) | omega | exact CI_push (by assumption) (by fail) (by fail) (by first | (rw [if_pos (by fail)]) | (rw [if_neg (by fail)])) (fun j hj => u2_ne (fun z => hj z.2)) u2_eq | exact CI_div (by assumption) (by fail) (by fail) rfl (fun j hj => u2_ne (fun z => hj z.2)) u2_eq | exact CI_not (by assumption) (by fail) (by fail) rfl (fun j hj => u2_ne (fun z => hj z.2)) u2_eq | exact CI_0 (by fail) (by fail) h_p0 (by fail) | exact CI_bin (by assumption) (by fail) (by fail) (congrArg wr (by assumption)) (fun j hj => u2_ne (fun z => hj z.2)) u2_eq) (by first | with_reducible assumption | exact unhid (by with_reducible assumption) | omega | exact CI_push (by assumption) (by fail) (by fail) (by first | (rw [if_pos (by fail)]) | (rw [if_neg (by fail)])) (fun j hj => u2_ne (fun z => hj z.2)) u2_eq | exact CI_div (by assumption) (by fail) (by fail) rfl (fun j hj => u2_ne (fun z => hj z.2)) u2_eq | exact CI_not (by assumption) (by fail) (by fail) rfl (fun j hj => u2_ne (fun z => hj z.2)) u2_eq | exact CI_0 (by fail) (by fail) h_p0 (by fail) | exact CI_bin (by assumption) (by fail) (by fail) (congrArg wr (by assumption)) (fun j hj => u2_ne (fun z => hj z.2)) u2_eq) (by first | with_reducible assumption | exact unhid (by with_reducible assumption) | omega | exact CI_push (by assumption) (by fail) (by fail) (by first | (rw [if_pos (by fail)]) | (rw [if_neg (by fail)])) (fun j hj => u2_ne (fun z => hj z.2)) u2_eq | exact CI_div (by assumption) (by fail) (by fail) rfl (fun j hj => u2_ne (fun z => hj z.2)) u2_eq | exact CI_not (by assumption) (by fail) (by fail) rfl (fun j hj => u2_ne (fun z => hj z.2)) u2_eq | exact CI_0 (by fail) (by fail) h_p0 (by fail) | exact CI_bin (by assumption) (by fail) (by fail) (congrArg wr (by assumption)) (fun j hj => u2_ne (fun z => hj z.2)) u2_eq) (by first | with_reducible assumption | exact unhid (by with_reducible assumption) | fail | exact CI_push (by assumption) (by omega) (by omega) (by first | (rw [if_pos (by fail)]) | (rw [if_neg (by (have z0_ := unhid c58; omega))])) (fun j hj => u2_ne (fun z => hj z.2)) u2_eq | exact CI_div (by assumption) (by fail) (by fail) rfl (fun j hj => u2_ne (fun z => hj z.2)) u2_eq | exact CI_not (by assumption) (by fail) (by fail) rfl (fun j hj => u2_ne (fun z => hj z.2)) u2_eq | exact CI_0 (by fail) (by fail) h_p0 (by fail) | exact CI_bin (by assumption) (by fail) (by fail) (congrArg wr (by assumption)) (fun j hj => u2_ne (fun z => hj z.2)) u2_eq) (by omega)) ⟨.inl rfl, .inl rfl, .inl rfl, .inl rfl, .inl rfl, .inl rfl, .inr ⟨rfl, trivial⟩, .inr ⟨rfl, trivial⟩, trivial⟩
          · skip
            refine go_toq PM204 (k := 2) (pc' := 86) (L' := [some (.inr (.inr (some 79))), some (.inl p1), none, some (.inl p3), some (.inl l6_4), some (.inl l6_5), some (.inl (dt 80 (((1240 + (1020 * p1)) + (2 * l6_5)).toNat))), some (.inl (dt 80 ((((1240 + (1020 * p1)) + (2 * l6_5)) + 1).toNat)))]) (st' := [.inl (dt 80 ((((1240 + (1020 * p1)) + (2 * l6_5)) + 1).toNat)), .inl l6_4, .inr (.inr (some 86))]) (w' := (SH, dt28)) rfl ?_
            have hI62 : InvC (u2 dt28 86 (l6_4).toNat (dt 80 ((((1240 + (1020 * p1)) + (2 * l6_5)) + 1).toNat))) := InvC_u2 hI29 (lo := -2147483648) (hi := 2147483647) rfl rfl rfl (by first | exact bnd1 r40 (by decide) | fail) (by first | exact bnd2 r40 (by decide) | fail)
            have hF63 : Fr [86] dt (u2 dt28 86 (l6_4).toNat (dt 80 ((((1240 + (1020 * p1)) + (2 * l6_5)) + 1).toNat))) := Fr_u2 hF30 (by decide)
            refine go_smpq PM204 (L' := [some (.inr (.inr (some 79))), some (.inl p1), none, some (.inl p3), some (.inl l6_4), some (.inl l6_5), some (.inl (dt 80 (((1240 + (1020 * p1)) + (2 * l6_5)).toNat))), some (.inl (dt 80 ((((1240 + (1020 * p1)) + (2 * l6_5)) + 1).toNat)))]) (st' := []) (w' := (SH, (u2 dt28 86 (l6_4).toNat (dt 80 ((((1240 + (1020 * p1)) + (2 * l6_5)) + 1).toNat))))) rfl rfl (s_iast (n := 520) rfl (by first | exact bndx i31 (by decide) (by decide) | exact ⟨by fail, by fail⟩) (by first | exact bnd r40 (by decide) (by decide) | exact ⟨by fail, by fail⟩)) ?_
            refine go_toq PM204 (k := 4) (pc' := 6) (L' := [some (.inr (.inr (some 79))), some (.inl p1), none, some (.inl p3), some (.inl (l6_4 + 1)), some (.inl (l6_5 + 1)), some (.inl (dt 80 (((1240 + (1020 * p1)) + (2 * l6_5)).toNat))), some (.inl (dt 80 ((((1240 + (1020 * p1)) + (2 * l6_5)) + 1).toNat)))]) (st' := []) (w' := (SH, (u2 dt28 86 (l6_4).toNat (dt 80 ((((1240 + (1020 * p1)) + (2 * l6_5)) + 1).toNat))))) rfl ?_
            exact GO.le (ih_loop36 (l6_4 + 1) (l6_5 + 1) (u2 dt28 86 (l6_4).toNat (dt 80 ((((1240 + (1020 * p1)) + (2 * l6_5)) + 1).toNat))) hI62 hF63 (by first | with_reducible assumption | omega | exact CI_push (by assumption) (by fail) (by fail) (by first | (rw [if_pos (by fail)]) | (rw [if_neg (by fail)])) (fun j hj => u2_ne (fun z => hj z.2)) u2_eq | exact CI_div (by assumption) (by fail) (by fail) rfl (fun j hj => u2_ne (fun z => hj z.2)) u2_eq | exact CI_not (by assumption) (by fail) (by fail) rfl (fun j hj => u2_ne (fun z => hj z.2)) u2_eq | exact CI_0 (by fail) (by fail) h_p0 (by fail) | exact CI_bin (by assumption) (by fail) (by fail) (congrArg wr (by assumption)) (fun j hj => u2_ne (fun z => hj z.2)) u2_eq) (by first | with_reducible assumption | omega | exact CI_push (by assumption) (by fail) (by fail) (by first | (rw [if_pos (by fail)]) | (rw [if_neg (by fail)])) (fun j hj => u2_ne (fun z => hj z.2)) u2_eq | exact CI_div (by assumption) (by fail) (by fail) rfl (fun j hj => u2_ne (fun z => hj z.2)) u2_eq | exact CI_not (by assumption) (by fail) (by fail) rfl (fun j hj => u2_ne (fun z => hj z.2)) u2_eq | exact CI_0 (by fail) (by fail) h_p0 (by fail) | exact CI_bin (by assumption) (by fail) (by fail) (congrArg wr (by assumption)) (fun j hj => u2_ne (fun z => hj z.2)) u2_eq) (by first | with_reducible assumption | omega | exact CI_push (by assumption) (by fail) (by fail) (by first | (rw [if_pos (by fail)]) | (rw [if_neg (by fail)])) (fun j hj => u2_ne (fun z => hj z.2)) u2_eq | exact CI_div (by assumption) (by fail) (by fail) rfl (fun j hj => u2_ne (fun z => hj z.2)) u2_eq | exact CI_not (by assumption) (by fail) (by fail) rfl (fun j hj => u2_ne (fun z => hj z.2)) u2_eq | exact CI_0 (by fail) (by fail) h_p0 (by fail) | exact CI_bin (by assumption) (by fail) (by fail) (congrArg wr (by assumption)) (fun j hj => u2_ne (fun z => hj z.2)) u2_eq) (by first | with_reducible assumption | omega | exact CI_push (by assumption) (by fail) (by fail) (by first | (rw [if_pos (by fail)]) | (rw [if_neg (by fail)])) (fun j hj => u2_ne (fun z => hj z.2)) u2_eq | exact CI_div (by assumption) (by fail) (by fail) rfl (fun j hj => u2_ne (fun z => hj z.2)) u2_eq | exact CI_not (by assumption) (by fail) (by fail) rfl (fun j hj => u2_ne (fun z => hj z.2)) u2_eq | exact CI_0 (by fail) (by fail) h_p0 (by fail) | exact CI_bin (by assumption) (by fail) (by fail) (congrArg wr (by assumption)) (fun j hj => u2_ne (fun z => hj z.2)) u2_eq) (by first | with_reducible assumption | fail | exact CI_push (by assumption) (by omega) (by omega) (by first | (rw [if_pos (by omega)]) | (rw [if_neg (by fail)])) (fun j hj => u2_ne (fun z => hj z.2)) u2_eq | exact CI_div (by assumption) (by fail) (by fail) rfl (fun j hj => u2_ne (fun z => hj z.2)) u2_eq | exact CI_not (by assumption) (by fail) (by fail) rfl (fun j hj => u2_ne (fun z => hj z.2)) u2_eq | exact CI_0 (by fail) (by fail) h_p0 (by fail) | exact CI_bin (by assumption) (by fail) (by fail) (congrArg wr (by assumption)) (fun j hj => u2_ne (fun z => hj z.2)) u2_eq) (by omega)) ⟨.inl rfl, .inl rfl, .inl rfl, .inl rfl, .inl rfl, .inl rfl, .inr ⟨rfl, trivial⟩, .inr ⟨rfl, trivial⟩, trivial⟩
  exact GO.le (loop36 _ 0 p2 dt hI hF (by first | with_reducible assumption | omega | exact CI_push (by assumption) (by fail) (by fail) (by first | (rw [if_pos (by fail)]) | (rw [if_neg (by fail)])) (fun j hj => u2_ne (fun z => hj z.2)) u2_eq | exact CI_div (by assumption) (by fail) (by fail) rfl (fun j hj => u2_ne (fun z => hj z.2)) u2_eq | exact CI_not (by assumption) (by fail) (by fail) rfl (fun j hj => u2_ne (fun z => hj z.2)) u2_eq | exact CI_0 (by fail) (by fail) h_p0 (by fail) | exact CI_bin (by assumption) (by fail) (by fail) (congrArg wr (by assumption)) (fun j hj => u2_ne (fun z => hj z.2)) u2_eq) (by first | with_reducible assumption | fail | exact CI_push (by assumption) (by fail) (by fail) (by first | (rw [if_pos (by fail)]) | (rw [if_neg (by fail)])) (fun j hj => u2_ne (fun z => hj z.2)) u2_eq | exact CI_div (by assumption) (by fail) (by fail) rfl (fun j hj => u2_ne (fun z => hj z.2)) u2_eq | exact CI_not (by assumption) (by fail) (by fail) rfl (fun j hj => u2_ne (fun z => hj z.2)) u2_eq | exact CI_0 (by fail) (by fail) h_p0 (by fail) | exact CI_bin (by assumption) (by fail) (by fail) (congrArg wr (by assumption)) (fun j hj => u2_ne (fun z => hj z.2)) u2_eq) (by first | with_reducible assumption | omega | exact CI_push (by assumption) (by fail) (by fail) (by first | (rw [if_pos (by fail)]) | (rw [if_neg (by fail)])) (fun j hj => u2_ne (fun z => hj z.2)) u2_eq | exact CI_div (by assumption) (by fail) (by fail) rfl (fun j hj => u2_ne (fun z => hj z.2)) u2_eq | exact CI_not (by assumption) (by fail) (by fail) rfl (fun j hj => u2_ne (fun z => hj z.2)) u2_eq | exact CI_0 (by fail) (by fail) h_p0 (by fail) | exact CI_bin (by assumption) (by fail) (by fail) (congrArg wr (by assumption)) (fun j hj => u2_ne (fun z => hj z.2)) u2_eq) (by first | with_reducible assumption | omega | exact CI_push (by assumption) (by fail) (by fail) (by first | (rw [if_pos (by fail)]) | (rw [if_neg (by fail)])) (fun j hj => u2_ne (fun z => hj z.2)) u2_eq | exact CI_div (by assumption) (by fail) (by fail) rfl (fun j hj => u2_ne (fun z => hj z.2)) u2_eq | exact CI_not (by assumption) (by fail) (by fail) rfl (fun j hj => u2_ne (fun z => hj z.2)) u2_eq | exact CI_0 (by fail) (by fail) h_p0 (by fail) | exact CI_bin (by assumption) (by fail) (by fail) (congrArg wr (by assumption)) (fun j hj => u2_ne (fun z => hj z.2)) u2_eq) (by first | with_reducible assumption | fail | exact CI_push (by assumption) (by fail) (by fail) (by first | (rw [if_pos (by fail)]) | (rw [if_neg (by fail)])) (fun j hj => u2_ne (fun z => hj z.2)) u2_eq | exact CI_div (by assumption) (by fail) (by fail) rfl (fun j hj => u2_ne (fun z => hj z.2)) u2_eq | exact CI_not (by assumption) (by fail) (by fail) rfl (fun j hj => u2_ne (fun z => hj z.2)) u2_eq | exact CI_0 (by omega) (by omega) h_p0 (by omega) | exact CI_bin (by assumption) (by fail) (by fail) (congrArg wr (by assumption)) (fun j hj => u2_ne (fun z => hj z.2)) u2_eq) (Nat.lt_succ_self _)) ⟨.inl rfl, .inl rfl, .inr ⟨rfl, trivial⟩, .inl rfl, .inl rfl, .inl rfl, .inl rfl, .inl rfl, trivial⟩
set_option maxRecDepth 20000 in
theorem sp_X6_weighs (L : Nat) (xs : Nat → Int32) (sio : Option Nat) (d : Nat) (dt : Nat → Nat → Int) (hI : InvC dt) (hM : MW (dt 80))  (p1 : Int) (h_p1 : 0 ≤ p1 ∧ p1 ≤ 3) (p2 : Int) (h_p2 : 0 ≤ p2 ∧ p2 ≤ 8)  : GO (am_XX L xs sio) (d + 2) 206 0 [some (.inr (.inr (some 79))), some (.inl p1), some (.inl p2), none, none, none, none] [] (SH, dt) (fun r w2 => ∃ dt2 : Nat → Nat → Int, w2 = (SH, dt2) ∧ InvC dt2 ∧ Fr [86] dt dt2 ∧ ((∃ v : Int, r = some (.inl v) ∧ (0 ≤ v ∧ v ≤ 100) ∧ (v = WH (dt 80) (dt 87) p1 p2) ∧ (¬ p2 = 8 → v ≤ 99)))) := by
  have hF : Fr [86] dt dt := Fr_refl
  refine go_ifq PM206 (k := 2) (p1 := 11) (p2 := 6) (L' := [some (.inr (.inr (some 79))), some (.inl p1), some (.inl p2), none, none, none, none]) (st' := []) (w' := (SH, dt)) rfl (c_ne (a := p2) (b := 8) (by first | exact bnd h_p2 (by decide) (by decide) | exact ⟨by fail, by fail⟩) ⟨by decide, by decide⟩) (fun c1 => ?_) (fun c1 => ?_)
  · skip
    have qc1 : p2 ≤ 7 := by omega
    replace c1 := hid c1
    refine go_toq PM206 (k := 4) (pc' := 17) (L' := [some (.inr (.inr (some 79))), some (.inl p1), some (.inl p2), some (.inl 99), some (.inl 0), none, none]) (st' := []) (w' := (SH, dt)) rfl ?_
    have loop135 : ∀ (k_ : Nat) (l17_4 : Int) (dt130 : Nat → Nat → Int) (hI131 : InvC dt130) (hF132 : Fr [86] dt dt130) (i133 : 0 ≤ l17_4 ∧ l17_4 ≤ 16) (i134 : WI (dt 80) (dt 87) p1 p2 l17_4), (17 - l17_4).toNat < k_ → GO (am_XX L xs sio) (d + 2) 206 17 [some (.inr (.inr (some 79))), some (.inl p1), some (.inl p2), some (.inl 99), some (.inl l17_4), none, none] [] (SH, dt130) (fun r w2 => ∃ dt2 : Nat → Nat → Int, w2 = (SH, dt2) ∧ InvC dt2 ∧ Fr [86] dt dt2 ∧ ((∃ v : Int, r = some (.inl v) ∧ (0 ≤ v ∧ v ≤ 100) ∧ (v = WH (dt 80) (dt 87) p1 p2) ∧ (¬ p2 = 8 → v ≤ 99)))) := by
      intro k_
      induction k_ with
      | zero => intro l17_4 dt130 hI131 hF132 i133 i134 hm; exact absurd hm (Nat.not_lt_zero _)
      | succ k_ ih_loop135 =>
        intro l17_4 dt130 hI131 hF132 i133 i134 hm
        refine go_toq PM206 (k := 6) (pc' := 28) (L' := [some (.inr (.inr (some 79))), some (.inl p1), some (.inl p2), some (.inl 99), some (.inl l17_4), none, none]) (st' := [.inl (974 + p1), .inr (.inr (some 80)), .inl l17_4]) (w' := (SH, dt130)) rfl ?_
        have r136 : (-2147483648) ≤ dt 80 ((974 + p1).toNat) ∧ dt 80 ((974 + p1).toNat) ≤ 2147483647 := InvC_get hI 80 ((974 + p1).toNat) rfl rfl
        have r137 := MW_lm hM (p1) ⟨by omega, by omega⟩
        refine go_smpq PM206 (L' := [some (.inr (.inr (some 79))), some (.inl p1), some (.inl p2), some (.inl 99), some (.inl l17_4), none, none]) (st' := [.inl (dt 80 ((974 + p1).toNat)), .inl l17_4]) (w' := (SH, dt130)) rfl rfl (s_ev (s_iald (n := 7460) (f := dt130 80) rfl ⟨by omega, by omega⟩) (hF132 80 (by decide) _)) ?_
        refine go_ifq PM206 (k := 0) (p1 := 175) (p2 := 32) (L' := [some (.inr (.inr (some 79))), some (.inl p1), some (.inl p2), some (.inl 99), some (.inl l17_4), none, none]) (st' := []) (w' := (SH, dt130)) rfl (c_ge (a := l17_4) (b := dt 80 ((974 + p1).toNat)) (by first | exact bnd i133 (by decide) (by decide) | exact ⟨by fail, by fail⟩) (by first | exact bnd r136 (by decide) (by decide) | exact ⟨by fail, by fail⟩)) (fun c138 => ?_) (fun c138 => ?_)
        · skip
          refine go_retq PM206 (k := 1) (r := some (.inl 0)) (w1 := (SH, dt130)) rfl ?_
          exact ⟨dt130, rfl, hI131, hF132, ⟨_, rfl, ⟨by decide, by decide⟩, ⟨by first | exact (WI_e (by assumption) (by omega)).symm | (rw [← WI_v (i := l17_4) (by assumption) (by fail) (by fail) (by fail)]; unfold clp; (repeat (first | rw [if_pos (by fail)] | rw [if_neg (by fail)])); first | done | fail), by first | exact True.intro | with_reducible assumption | exact unhid (by with_reducible assumption) | rfl | omega | trivial⟩⟩⟩
        · skip
          refine go_toq PM206 (k := 11) (pc' := 51) (L' := [some (.inr (.inr (some 79))), some (.inl p1), some (.inl p2), some (.inl 99), some (.inl l17_4), some (.inl ((16 * p1) + l17_4)), none]) (st' := [.inl (978 + ((16 * p1) + l17_4)), .inr (.inr (some 80))]) (w' := (SH, dt130)) rfl ?_
          have r139 : (-2147483648) ≤ dt 80 ((978 + ((16 * p1) + l17_4)).toNat) ∧ dt 80 ((978 + ((16 * p1) + l17_4)).toNat) ≤ 2147483647 := InvC_get hI 80 ((978 + ((16 * p1) + l17_4)).toNat) rfl rfl
          refine go_smpq PM206 (L' := [some (.inr (.inr (some 79))), some (.inl p1), some (.inl p2), some (.inl 99), some (.inl l17_4), some (.inl ((16 * p1) + l17_4)), none]) (st' := [.inl (dt 80 ((978 + ((16 * p1) + l17_4)).toNat))]) (w' := (SH, dt130)) rfl rfl (s_ev (s_iald (n := 7460) (f := dt130 80) rfl ⟨by omega, by omega⟩) (hF132 80 (by decide) _)) ?_
          refine go_ifq PM206 (k := 1) (p1 := 59) (p2 := 56) (L' := [some (.inr (.inr (some 79))), some (.inl p1), some (.inl p2), some (.inl 99), some (.inl l17_4), some (.inl ((16 * p1) + l17_4)), none]) (st' := []) (w' := (SH, dt130)) rfl (c_eq (a := dt 80 ((978 + ((16 * p1) + l17_4)).toNat)) (b := p2) (by first | exact bnd r139 (by decide) (by decide) | exact ⟨by fail, by fail⟩) (by first | exact bnd h_p2 (by decide) (by decide) | exact ⟨by fail, by fail⟩)) (fun c140 => ?_) (fun c140 => ?_)
          · skip
            refine go_toq PM206 (k := 5) (pc' := 69) (L' := [some (.inr (.inr (some 79))), some (.inl p1), some (.inl p2), some (.inl 99), some (.inl l17_4), some (.inl ((16 * p1) + l17_4)), none]) (st' := [.inl (1170 + ((16 * p1) + l17_4)), .inr (.inr (some 80))]) (w' := (SH, dt130)) rfl ?_
            have r141 : (-2147483648) ≤ dt 80 ((1170 + ((16 * p1) + l17_4)).toNat) ∧ dt 80 ((1170 + ((16 * p1) + l17_4)).toNat) ≤ 2147483647 := InvC_get hI 80 ((1170 + ((16 * p1) + l17_4)).toNat) rfl rfl
            have r142 := MW_l hM (p1) (l17_4) ⟨by omega, by omega⟩ ⟨by omega, by omega⟩
            refine go_smpq PM206 (L' := [some (.inr (.inr (some 79))), some (.inl p1), some (.inl p2), some (.inl 99), some (.inl l17_4), some (.inl ((16 * p1) + l17_4)), none]) (st' := [.inl (dt 80 ((1170 + ((16 * p1) + l17_4)).toNat))]) (w' := (SH, dt130)) rfl rfl (s_ev (s_iald (n := 7460) (f := dt130 80) rfl ⟨by omega, by omega⟩) (hF132 80 (by decide) _)) ?_
            refine go_toq PM206 (k := 5) (pc' := 80) (L' := [some (.inr (.inr (some 79))), some (.inl p1), some (.inl p2), some (.inl 99), some (.inl l17_4), some (.inl ((16 * p1) + l17_4)), none]) (st' := [.inl (1106 + ((16 * p1) + l17_4)), .inr (.inr (some 80)), .inl (dt 80 ((1170 + ((16 * p1) + l17_4)).toNat))]) (w' := (SH, dt130)) rfl ?_
            have r143 : (-2147483648) ≤ dt 80 ((1106 + ((16 * p1) + l17_4)).toNat) ∧ dt 80 ((1106 + ((16 * p1) + l17_4)).toNat) ≤ 2147483647 := InvC_get hI 80 ((1106 + ((16 * p1) + l17_4)).toNat) rfl rfl
            refine go_smpq PM206 (L' := [some (.inr (.inr (some 79))), some (.inl p1), some (.inl p2), some (.inl 99), some (.inl l17_4), some (.inl ((16 * p1) + l17_4)), none]) (st' := [.inl (dt 80 ((1106 + ((16 * p1) + l17_4)).toNat)), .inl (dt 80 ((1170 + ((16 * p1) + l17_4)).toNat))]) (w' := (SH, dt130)) rfl rfl (s_ev (s_iald (n := 7460) (f := dt130 80) rfl ⟨by omega, by omega⟩) (hF132 80 (by decide) _)) ?_
            refine go_ifq PM206 (k := 0) (p1 := 118) (p2 := 84) (L' := [some (.inr (.inr (some 79))), some (.inl p1), some (.inl p2), some (.inl 99), some (.inl l17_4), some (.inl ((16 * p1) + l17_4)), none]) (st' := []) (w' := (SH, dt130)) rfl (c_le (a := dt 80 ((1170 + ((16 * p1) + l17_4)).toNat)) (b := dt 80 ((1106 + ((16 * p1) + l17_4)).toNat)) (by first | exact bnd r141 (by decide) (by decide) | exact ⟨by fail, by fail⟩) (by first | exact bnd r143 (by decide) (by decide) | exact ⟨by fail, by fail⟩)) (fun c144 => ?_) (fun c144 => ?_)
            · skip
              refine go_toq PM206 (k := 7) (pc' := 130) (L' := [some (.inr (.inr (some 79))), some (.inl p1), some (.inl p2), some (.inl 99), some (.inl l17_4), some (.inl ((16 * p1) + l17_4)), none]) (st' := [.inl (1042 + ((16 * p1) + l17_4)), .inr (.inr (some 80)), .inl p1, .inr (.inr (some 79))]) (w' := (SH, dt130)) rfl ?_
              have r145 : (-2147483648) ≤ dt 80 ((1042 + ((16 * p1) + l17_4)).toNat) ∧ dt 80 ((1042 + ((16 * p1) + l17_4)).toNat) ≤ 2147483647 := InvC_get hI 80 ((1042 + ((16 * p1) + l17_4)).toNat) rfl rfl
              refine go_smpq PM206 (L' := [some (.inr (.inr (some 79))), some (.inl p1), some (.inl p2), some (.inl 99), some (.inl l17_4), some (.inl ((16 * p1) + l17_4)), none]) (st' := [.inl (dt 80 ((1042 + ((16 * p1) + l17_4)).toNat)), .inl p1, .inr (.inr (some 79))]) (w' := (SH, dt130)) rfl rfl (s_ev (s_iald (n := 7460) (f := dt130 80) rfl ⟨by omega, by omega⟩) (hF132 80 (by decide) _)) ?_
              refine go_toq PM206 (k := 5) (pc' := 141) (L' := [some (.inr (.inr (some 79))), some (.inl p1), some (.inl p2), some (.inl 99), some (.inl l17_4), some (.inl ((16 * p1) + l17_4)), none]) (st' := [.inl (1106 + ((16 * p1) + l17_4)), .inr (.inr (some 80)), .inl (dt 80 ((1042 + ((16 * p1) + l17_4)).toNat)), .inl p1, .inr (.inr (some 79))]) (w' := (SH, dt130)) rfl ?_
              refine go_smpq PM206 (L' := [some (.inr (.inr (some 79))), some (.inl p1), some (.inl p2), some (.inl 99), some (.inl l17_4), some (.inl ((16 * p1) + l17_4)), none]) (st' := [.inl (dt 80 ((1106 + ((16 * p1) + l17_4)).toNat)), .inl (dt 80 ((1042 + ((16 * p1) + l17_4)).toNat)), .inl p1, .inr (.inr (some 79))]) (w' := (SH, dt130)) rfl rfl (s_ev (s_iald (n := 7460) (f := dt130 80) rfl ⟨by omega, by omega⟩) (hF132 80 (by decide) _)) ?_
              refine go_callq PM206 PM204 (Q' := _) rfl rfl rfl rfl (sp_X6_comesTo L xs sio (d + 0) dt130 hI131 (MW_fr hM hF132 (by decide))  p1 (by first | exact h_p1 | exact bnd h_p1 (by decide) (by decide) | exact ⟨by fail, by fail⟩) (dt 80 ((1042 + ((16 * p1) + l17_4)).toNat)) (by first | exact bnd r145 (by decide) (by decide) | exact ⟨by omega, by omega⟩) (dt 80 ((1106 + ((16 * p1) + l17_4)).toNat)) (by first | exact bnd r143 (by decide) (by decide) | exact ⟨by omega, by omega⟩) (by first | exact MW_s2 hM p1 l17_4 (by omega) (by omega) (by fail) | exact MW_s1 hM p1 l17_4 (by omega) (by omega) | (rw [show dt130 80 = dt 80 from funext (hF132 80 (by decide))]; first | exact MW_s2 hM p1 l17_4 (by omega) (by omega) (by fail) | exact MW_s1 hM p1 l17_4 (by omega) (by omega)))) ?_
              rintro _ _ ⟨dt147, rfl, hI148, hF149, h146⟩
              refine ⟨rfl, ?_⟩
              have hF150 : Fr [86] dt dt147 := Fr_tr hF132 hF149 (by decide)
              rcases h146 with ⟨v_h146, rfl, h146r, h146⟩
              rw [show dt130 80 = dt 80 from funext (hF132 80 (by decide)), show dt130 87 = dt 87 from funext (hF132 87 (by decide))] at h146
              refine go_ifq PM206 (k := 2) (p1 := 156) (p2 := 152) (L' := [some (.inr (.inr (some 79))), some (.inl p1), some (.inl p2), some (.inl 99), some (.inl l17_4), some (.inl ((16 * p1) + l17_4)), some (.inl v_h146)]) (st' := []) (w' := (SH, dt147)) rfl (z_ge (a := v_h146) (by first | exact bnd h146r (by decide) (by decide) | exact ⟨by fail, by fail⟩)) (fun c151 => ?_) (fun c151 => ?_)
              · skip
                refine go_ifq PM206 (k := 2) (p1 := 166) (p2 := 162) (L' := [some (.inr (.inr (some 79))), some (.inl p1), some (.inl p2), some (.inl 99), some (.inl l17_4), some (.inl ((16 * p1) + l17_4)), some (.inl v_h146)]) (st' := []) (w' := (SH, dt147)) rfl (c_le (a := v_h146) (b := 99) (by first | exact bnd h146r (by decide) (by decide) | exact ⟨by fail, by fail⟩) ⟨by decide, by decide⟩) (fun c152 => ?_) (fun c152 => ?_)
                · skip
                  refine go_retq PM206 (k := 1) (r := some (.inl v_h146)) (w1 := (SH, dt147)) rfl ?_
                  exact ⟨dt147, rfl, hI148, hF150, ⟨_, rfl, (by first | exact bnd h146r (by decide) (by decide) | exact ⟨by omega, by omega⟩), ⟨by first | exact (WI_e (by assumption) (by fail)).symm | (rw [← WI_v (i := l17_4) (by assumption) (by omega) (by omega) (by omega)]; unfold clp; (repeat (first | rw [if_pos (by fail)] | rw [if_neg (by omega)])); first | done | omega), by first | exact True.intro | with_reducible assumption | exact unhid (by with_reducible assumption) | rfl | omega | trivial⟩⟩⟩
                · skip
                  refine go_retq PM206 (k := 2) (r := some (.inl 99)) (w1 := (SH, dt147)) rfl ?_
                  exact ⟨dt147, rfl, hI148, hF150, ⟨_, rfl, ⟨by decide, by decide⟩, ⟨by first | exact (WI_e (by assumption) (by fail)).symm | (rw [← WI_v (i := l17_4) (by assumption) (by omega) (by omega) (by omega)]; unfold clp; (repeat (first | rw [if_pos (by omega)] | rw [if_neg (by omega)])); first | done | fail), by first | exact True.intro | with_reducible assumption | exact unhid (by with_reducible assumption) | rfl | omega | trivial⟩⟩⟩
              · skip
                refine go_retq PM206 (k := 2) (r := some (.inl 0)) (w1 := (SH, dt147)) rfl ?_
                exact ⟨dt147, rfl, hI148, hF150, ⟨_, rfl, ⟨by decide, by decide⟩, ⟨by first | exact (WI_e (by assumption) (by fail)).symm | (rw [← WI_v (i := l17_4) (by assumption) (by omega) (by omega) (by omega)]; unfold clp; (repeat (first | rw [if_pos (by omega)] | rw [if_neg (by fail)])); first | done | fail), by first | exact True.intro | with_reducible assumption | exact unhid (by with_reducible assumption) | rfl | omega | trivial⟩⟩⟩
            · skip
              refine go_toq PM206 (k := 7) (pc' := 96) (L' := [some (.inr (.inr (some 79))), some (.inl p1), some (.inl p2), some (.inl 99), some (.inl l17_4), some (.inl ((16 * p1) + l17_4)), none]) (st' := [.inl (1106 + ((16 * p1) + l17_4)), .inr (.inr (some 80)), .inl p1, .inr (.inr (some 79))]) (w' := (SH, dt130)) rfl ?_
              refine go_smpq PM206 (L' := [some (.inr (.inr (some 79))), some (.inl p1), some (.inl p2), some (.inl 99), some (.inl l17_4), some (.inl ((16 * p1) + l17_4)), none]) (st' := [.inl (dt 80 ((1106 + ((16 * p1) + l17_4)).toNat)), .inl p1, .inr (.inr (some 79))]) (w' := (SH, dt130)) rfl rfl (s_ev (s_iald (n := 7460) (f := dt130 80) rfl ⟨by omega, by omega⟩) (hF132 80 (by decide) _)) ?_
              refine go_toq PM206 (k := 5) (pc' := 107) (L' := [some (.inr (.inr (some 79))), some (.inl p1), some (.inl p2), some (.inl 99), some (.inl l17_4), some (.inl ((16 * p1) + l17_4)), none]) (st' := [.inl (1170 + ((16 * p1) + l17_4)), .inr (.inr (some 80)), .inl (dt 80 ((1106 + ((16 * p1) + l17_4)).toNat)), .inl p1, .inr (.inr (some 79))]) (w' := (SH, dt130)) rfl ?_
              refine go_smpq PM206 (L' := [some (.inr (.inr (some 79))), some (.inl p1), some (.inl p2), some (.inl 99), some (.inl l17_4), some (.inl ((16 * p1) + l17_4)), none]) (st' := [.inl (dt 80 ((1170 + ((16 * p1) + l17_4)).toNat)), .inl (dt 80 ((1106 + ((16 * p1) + l17_4)).toNat)), .inl p1, .inr (.inr (some 79))]) (w' := (SH, dt130)) rfl rfl (s_ev (s_iald (n := 7460) (f := dt130 80) rfl ⟨by omega, by omega⟩) (hF132 80 (by decide) _)) ?_
              refine go_callq PM206 PM204 (Q' := _) rfl rfl rfl rfl (sp_X6_comesTo L xs sio (d + 0) dt130 hI131 (MW_fr hM hF132 (by decide))  p1 (by first | exact h_p1 | exact bnd h_p1 (by decide) (by decide) | exact ⟨by fail, by fail⟩) (dt 80 ((1106 + ((16 * p1) + l17_4)).toNat)) (by first | exact bnd r143 (by decide) (by decide) | exact ⟨by omega, by omega⟩) (dt 80 ((1170 + ((16 * p1) + l17_4)).toNat)) (by first | exact bnd r141 (by decide) (by decide) | exact ⟨by omega, by omega⟩) (by first | exact MW_s2 hM p1 l17_4 (by omega) (by omega) (by omega) | exact MW_s1 hM p1 l17_4 (by omega) (by omega) | (rw [show dt130 80 = dt 80 from funext (hF132 80 (by decide))]; first | exact MW_s2 hM p1 l17_4 (by omega) (by omega) (by omega) | exact MW_s1 hM p1 l17_4 (by fail) (by fail)))) ?_
              rintro _ _ ⟨dt154, rfl, hI155, hF156, h153⟩
              refine ⟨rfl, ?_⟩
              have hF157 : Fr [86] dt dt154 := Fr_tr hF132 hF156 (by decide)
              rcases h153 with ⟨v_h153, rfl, h153r, h153⟩
              rw [show dt130 80 = dt 80 from funext (hF132 80 (by decide)), show dt130 87 = dt 87 from funext (hF132 87 (by decide))] at h153
              refine go_ifq PM206 (k := 1) (p1 := 118) (p2 := 115) (L' := [some (.inr (.inr (some 79))), some (.inl p1), some (.inl p2), some (.inl 99), some (.inl l17_4), some (.inl ((16 * p1) + l17_4)), none]) (st' := []) (w' := (SH, dt154)) rfl (c_eq (a := v_h153) (b := 1) (by first | exact bnd h153r (by decide) (by decide) | exact ⟨by fail, by fail⟩) ⟨by decide, by decide⟩) (fun c158 => ?_) (fun c158 => ?_)
              · skip
                refine go_toq PM206 (k := 7) (pc' := 130) (L' := [some (.inr (.inr (some 79))), some (.inl p1), some (.inl p2), some (.inl 99), some (.inl l17_4), some (.inl ((16 * p1) + l17_4)), none]) (st' := [.inl (1042 + ((16 * p1) + l17_4)), .inr (.inr (some 80)), .inl p1, .inr (.inr (some 79))]) (w' := (SH, dt154)) rfl ?_
                have r159 : (-2147483648) ≤ dt 80 ((1042 + ((16 * p1) + l17_4)).toNat) ∧ dt 80 ((1042 + ((16 * p1) + l17_4)).toNat) ≤ 2147483647 := InvC_get hI 80 ((1042 + ((16 * p1) + l17_4)).toNat) rfl rfl
                refine go_smpq PM206 (L' := [some (.inr (.inr (some 79))), some (.inl p1), some (.inl p2), some (.inl 99), some (.inl l17_4), some (.inl ((16 * p1) + l17_4)), none]) (st' := [.inl (dt 80 ((1042 + ((16 * p1) + l17_4)).toNat)), .inl p1, .inr (.inr (some 79))]) (w' := (SH, dt154)) rfl rfl (s_ev (s_iald (n := 7460) (f := dt154 80) rfl ⟨by omega, by omega⟩) (hF157 80 (by decide) _)) ?_
                refine go_toq PM206 (k := 5) (pc' := 141) (L' := [some (.inr (.inr (some 79))), some (.inl p1), some (.inl p2), some (.inl 99), some (.inl l17_4), some (.inl ((16 * p1) + l17_4)), none]) (st' := [.inl (1106 + ((16 * p1) + l17_4)), .inr (.inr (some 80)), .inl (dt 80 ((1042 + ((16 * p1) + l17_4)).toNat)), .inl p1, .inr (.inr (some 79))]) (w' := (SH, dt154)) rfl ?_
                refine go_smpq PM206 (L' := [some (.inr (.inr (some 79))), some (.inl p1), some (.inl p2), some (.inl 99), some (.inl l17_4), some (.inl ((16 * p1) + l17_4)), none]) (st' := [.inl (dt 80 ((1106 + ((16 * p1) + l17_4)).toNat)), .inl (dt 80 ((1042 + ((16 * p1) + l17_4)).toNat)), .inl p1, .inr (.inr (some 79))]) (w' := (SH, dt154)) rfl rfl (s_ev (s_iald (n := 7460) (f := dt154 80) rfl ⟨by omega, by omega⟩) (hF157 80 (by decide) _)) ?_
                refine go_callq PM206 PM204 (Q' := _) rfl rfl rfl rfl (sp_X6_comesTo L xs sio (d + 0) dt154 hI155 (MW_fr hM hF157 (by decide))  p1 (by first | exact h_p1 | exact bnd h_p1 (by decide) (by decide) | exact ⟨by fail, by fail⟩) (dt 80 ((1042 + ((16 * p1) + l17_4)).toNat)) (by first | exact bnd r159 (by decide) (by decide) | exact ⟨by omega, by omega⟩) (dt 80 ((1106 + ((16 * p1) + l17_4)).toNat)) (by first | exact bnd r143 (by decide) (by decide) | exact ⟨by omega, by omega⟩) (by first | exact MW_s2 hM p1 l17_4 (by omega) (by omega) (by omega) | exact MW_s1 hM p1 l17_4 (by omega) (by omega) | (rw [show dt154 80 = dt 80 from funext (hF157 80 (by decide))]; first | exact MW_s2 hM p1 l17_4 (by omega) (by omega) (by omega) | exact MW_s1 hM p1 l17_4 (by omega) (by omega)))) ?_
                rintro _ _ ⟨dt161, rfl, hI162, hF163, h160⟩
                refine ⟨rfl, ?_⟩
                have hF164 : Fr [86] dt dt161 := Fr_tr hF157 hF163 (by decide)
                rcases h160 with ⟨v_h160, rfl, h160r, h160⟩
                rw [show dt154 80 = dt 80 from funext (hF157 80 (by decide)), show dt154 87 = dt 87 from funext (hF157 87 (by decide))] at h160
                refine go_ifq PM206 (k := 2) (p1 := 156) (p2 := 152) (L' := [some (.inr (.inr (some 79))), some (.inl p1), some (.inl p2), some (.inl 99), some (.inl l17_4), some (.inl ((16 * p1) + l17_4)), some (.inl v_h160)]) (st' := []) (w' := (SH, dt161)) rfl (z_ge (a := v_h160) (by first | exact bnd h160r (by decide) (by decide) | exact ⟨by fail, by fail⟩)) (fun c165 => ?_) (fun c165 => ?_)
                · skip
                  refine go_ifq PM206 (k := 2) (p1 := 166) (p2 := 162) (L' := [some (.inr (.inr (some 79))), some (.inl p1), some (.inl p2), some (.inl 99), some (.inl l17_4), some (.inl ((16 * p1) + l17_4)), some (.inl v_h160)]) (st' := []) (w' := (SH, dt161)) rfl (c_le (a := v_h160) (b := 99) (by first | exact bnd h160r (by decide) (by decide) | exact ⟨by fail, by fail⟩) ⟨by decide, by decide⟩) (fun c166 => ?_) (fun c166 => ?_)
                  · skip
                    refine go_retq PM206 (k := 1) (r := some (.inl v_h160)) (w1 := (SH, dt161)) rfl ?_
                    exact ⟨dt161, rfl, hI162, hF164, ⟨_, rfl, (by first | exact bnd h160r (by decide) (by decide) | exact ⟨by omega, by omega⟩), ⟨by first | exact (WI_e (by assumption) (by fail)).symm | (rw [← WI_v (i := l17_4) (by assumption) (by omega) (by omega) (by omega)]; unfold clp; (repeat (first | rw [if_pos (by fail)] | rw [if_neg (by omega)])); first | done | omega), by first | exact True.intro | with_reducible assumption | exact unhid (by with_reducible assumption) | rfl | omega | trivial⟩⟩⟩
                  · skip
                    refine go_retq PM206 (k := 2) (r := some (.inl 99)) (w1 := (SH, dt161)) rfl ?_
                    exact ⟨dt161, rfl, hI162, hF164, ⟨_, rfl, ⟨by decide, by decide⟩, ⟨by first | exact (WI_e (by assumption) (by fail)).symm | (rw [← WI_v (i := l17_4) (by assumption) (by omega) (by omega) (by omega)]; unfold clp; (repeat (first | rw [if_pos (by omega)] | rw [if_neg (by omega)])); first | done | fail), by first | exact True.intro | with_reducible assumption | exact unhid (by with_reducible assumption) | rfl | omega | trivial⟩⟩⟩
                · skip
                  refine go_retq PM206 (k := 2) (r := some (.inl 0)) (w1 := (SH, dt161)) rfl ?_
                  exact ⟨dt161, rfl, hI162, hF164, ⟨_, rfl, ⟨by decide, by decide⟩, ⟨by first | exact (WI_e (by assumption) (by fail)).symm | (rw [← WI_v (i := l17_4) (by assumption) (by omega) (by omega) (by omega)]; unfold clp; (repeat (first | rw [if_pos (by omega)] | rw [if_neg (by fail)])); first | done | fail), by first | exact True.intro | with_reducible assumption | exact unhid (by with_reducible assumption) | rfl | omega | trivial⟩⟩⟩
              · skip
                replace c158 := hid c158
                refine go_toq PM206 (k := 3) (pc' := 17) (L' := [some (.inr (.inr (some 79))), some (.inl p1), some (.inl p2), some (.inl 99), some (.inl (l17_4 + 1)), some (.inl ((16 * p1) + l17_4)), none]) (st' := []) (w' := (SH, dt154)) rfl ?_
                exact GO.le (ih_loop135 (l17_4 + 1) dt154 hI155 hF157 (by first | with_reducible assumption | exact unhid (by with_reducible assumption) | omega | exact WI_0 | exact WI_n1 (by assumption) (by fail) (by fail) | exact WI_n2 (by assumption) (by fail) (by fail) (by fail) (by fail)) (by first | with_reducible assumption | exact unhid (by with_reducible assumption) | fail | exact WI_0 | exact WI_n1 (by assumption) (by omega) (by fail) | exact WI_n2 (by assumption) (by omega) (by omega) (by omega) (by (have z0_ := unhid c1; have z1_ := unhid c158; omega))) (by omega)) ⟨.inl rfl, .inl rfl, .inl rfl, .inl rfl, .inl rfl, .inr ⟨rfl, trivial⟩, .inl rfl, trivial⟩
          · skip
            replace c140 := hid c140
            refine go_toq PM206 (k := 3) (pc' := 17) (L' := [some (.inr (.inr (some 79))), some (.inl p1), some (.inl p2), some (.inl 99), some (.inl (l17_4 + 1)), some (.inl ((16 * p1) + l17_4)), none]) (st' := []) (w' := (SH, dt130)) rfl ?_
            exact GO.le (ih_loop135 (l17_4 + 1) dt130 hI131 hF132 (by first | with_reducible assumption | exact unhid (by with_reducible assumption) | omega | exact WI_0 | exact WI_n1 (by assumption) (by fail) (by fail) | exact WI_n2 (by assumption) (by fail) (by fail) (by fail) (by fail)) (by first | with_reducible assumption | exact unhid (by with_reducible assumption) | fail | exact WI_0 | exact WI_n1 (by assumption) (by omega) (by (have z0_ := unhid c1; have z1_ := unhid c140; omega)) | exact WI_n2 (by assumption) (by fail) (by fail) (by fail) (by fail)) (by omega)) ⟨.inl rfl, .inl rfl, .inl rfl, .inl rfl, .inl rfl, .inr ⟨rfl, trivial⟩, .inl rfl, trivial⟩
    exact GO.le (loop135 _ 0 dt hI hF (by first | with_reducible assumption | exact unhid (by with_reducible assumption) | omega | exact WI_0 | exact WI_n1 (by assumption) (by fail) (by fail) | exact WI_n2 (by assumption) (by fail) (by fail) (by fail) (by fail)) (by first | with_reducible assumption | exact unhid (by with_reducible assumption) | fail | exact WI_0 | exact WI_n1 (by assumption) (by fail) (by fail) | exact WI_n2 (by assumption) (by fail) (by fail) (by fail) (by fail)) (Nat.lt_succ_self _)) ⟨.inl rfl, .inl rfl, .inl rfl, .inl rfl, .inl rfl, .inl rfl, .inl rfl, trivial⟩
  · skip
    refine go_toq PM206 (k := 5) (pc' := 17) (L' := [some (.inr (.inr (some 79))), some (.inl p1), some (.inl p2), some (.inl 100), some (.inl 0), none, none]) (st' := []) (w' := (SH, dt)) rfl ?_
    have loop300 : ∀ (k_ : Nat) (l17_4 : Int) (dt295 : Nat → Nat → Int) (hI296 : InvC dt295) (hF297 : Fr [86] dt dt295) (i298 : 0 ≤ l17_4 ∧ l17_4 ≤ 16) (i299 : WI (dt 80) (dt 87) p1 p2 l17_4), (17 - l17_4).toNat < k_ → GO (am_XX L xs sio) (d + 2) 206 17 [some (.inr (.inr (some 79))), some (.inl p1), some (.inl p2), some (.inl 100), some (.inl l17_4), none, none] [] (SH, dt295) (fun r w2 => ∃ dt2 : Nat → Nat → Int, w2 = (SH, dt2) ∧ InvC dt2 ∧ Fr [86] dt dt2 ∧ ((∃ v : Int, r = some (.inl v) ∧ (0 ≤ v ∧ v ≤ 100) ∧ (v = WH (dt 80) (dt 87) p1 p2) ∧ (¬ p2 = 8 → v ≤ 99)))) := by
      intro k_
      induction k_ with
      | zero => intro l17_4 dt295 hI296 hF297 i298 i299 hm; exact absurd hm (Nat.not_lt_zero _)
      | succ k_ ih_loop300 =>
        intro l17_4 dt295 hI296 hF297 i298 i299 hm
        refine go_toq PM206 (k := 6) (pc' := 28) (L' := [some (.inr (.inr (some 79))), some (.inl p1), some (.inl p2), some (.inl 100), some (.inl l17_4), none, none]) (st' := [.inl (974 + p1), .inr (.inr (some 80)), .inl l17_4]) (w' := (SH, dt295)) rfl ?_
        have r301 : (-2147483648) ≤ dt 80 ((974 + p1).toNat) ∧ dt 80 ((974 + p1).toNat) ≤ 2147483647 := InvC_get hI 80 ((974 + p1).toNat) rfl rfl
        have r302 := MW_lm hM (p1) ⟨by omega, by omega⟩
        refine go_smpq PM206 (L' := [some (.inr (.inr (some 79))), some (.inl p1), some (.inl p2), some (.inl 100), some (.inl l17_4), none, none]) (st' := [.inl (dt 80 ((974 + p1).toNat)), .inl l17_4]) (w' := (SH, dt295)) rfl rfl (s_ev (s_iald (n := 7460) (f := dt295 80) rfl ⟨by omega, by omega⟩) (hF297 80 (by decide) _)) ?_
        refine go_ifq PM206 (k := 0) (p1 := 175) (p2 := 32) (L' := [some (.inr (.inr (some 79))), some (.inl p1), some (.inl p2), some (.inl 100), some (.inl l17_4), none, none]) (st' := []) (w' := (SH, dt295)) rfl (c_ge (a := l17_4) (b := dt 80 ((974 + p1).toNat)) (by first | exact bnd i298 (by decide) (by decide) | exact ⟨by fail, by fail⟩) (by first | exact bnd r301 (by decide) (by decide) | exact ⟨by fail, by fail⟩)) (fun c303 => ?_) (fun c303 => ?_)
        · skip
          refine go_retq PM206 (k := 1) (r := some (.inl 0)) (w1 := (SH, dt295)) rfl ?_
          exact ⟨dt295, rfl, hI296, hF297, ⟨_, rfl, ⟨by decide, by decide⟩, ⟨by first | exact (WI_e (by assumption) (by omega)).symm | (rw [← WI_v (i := l17_4) (by assumption) (by fail) (by fail) (by fail)]; unfold clp; (repeat (first | rw [if_pos (by fail)] | rw [if_neg (by fail)])); first | done | fail), by first | exact True.intro | with_reducible assumption | rfl | omega | trivial⟩⟩⟩
        · skip
          refine go_toq PM206 (k := 11) (pc' := 51) (L' := [some (.inr (.inr (some 79))), some (.inl p1), some (.inl p2), some (.inl 100), some (.inl l17_4), some (.inl ((16 * p1) + l17_4)), none]) (st' := [.inl (978 + ((16 * p1) + l17_4)), .inr (.inr (some 80))]) (w' := (SH, dt295)) rfl ?_
          have r304 : (-2147483648) ≤ dt 80 ((978 + ((16 * p1) + l17_4)).toNat) ∧ dt 80 ((978 + ((16 * p1) + l17_4)).toNat) ≤ 2147483647 := InvC_get hI 80 ((978 + ((16 * p1) + l17_4)).toNat) rfl rfl
          refine go_smpq PM206 (L' := [some (.inr (.inr (some 79))), some (.inl p1), some (.inl p2), some (.inl 100), some (.inl l17_4), some (.inl ((16 * p1) + l17_4)), none]) (st' := [.inl (dt 80 ((978 + ((16 * p1) + l17_4)).toNat))]) (w' := (SH, dt295)) rfl rfl (s_ev (s_iald (n := 7460) (f := dt295 80) rfl ⟨by omega, by omega⟩) (hF297 80 (by decide) _)) ?_
          refine go_ifq PM206 (k := 1) (p1 := 59) (p2 := 56) (L' := [some (.inr (.inr (some 79))), some (.inl p1), some (.inl p2), some (.inl 100), some (.inl l17_4), some (.inl ((16 * p1) + l17_4)), none]) (st' := []) (w' := (SH, dt295)) rfl (c_eq (a := dt 80 ((978 + ((16 * p1) + l17_4)).toNat)) (b := p2) (by first | exact bnd r304 (by decide) (by decide) | exact ⟨by fail, by fail⟩) (by first | exact bnd h_p2 (by decide) (by decide) | exact ⟨by fail, by fail⟩)) (fun c305 => ?_) (fun c305 => ?_)
          · skip
            refine go_toq PM206 (k := 5) (pc' := 69) (L' := [some (.inr (.inr (some 79))), some (.inl p1), some (.inl p2), some (.inl 100), some (.inl l17_4), some (.inl ((16 * p1) + l17_4)), none]) (st' := [.inl (1170 + ((16 * p1) + l17_4)), .inr (.inr (some 80))]) (w' := (SH, dt295)) rfl ?_
            have r306 : (-2147483648) ≤ dt 80 ((1170 + ((16 * p1) + l17_4)).toNat) ∧ dt 80 ((1170 + ((16 * p1) + l17_4)).toNat) ≤ 2147483647 := InvC_get hI 80 ((1170 + ((16 * p1) + l17_4)).toNat) rfl rfl
            have r307 := MW_l hM (p1) (l17_4) ⟨by omega, by omega⟩ ⟨by omega, by omega⟩
            refine go_smpq PM206 (L' := [some (.inr (.inr (some 79))), some (.inl p1), some (.inl p2), some (.inl 100), some (.inl l17_4), some (.inl ((16 * p1) + l17_4)), none]) (st' := [.inl (dt 80 ((1170 + ((16 * p1) + l17_4)).toNat))]) (w' := (SH, dt295)) rfl rfl (s_ev (s_iald (n := 7460) (f := dt295 80) rfl ⟨by omega, by omega⟩) (hF297 80 (by decide) _)) ?_
            refine go_toq PM206 (k := 5) (pc' := 80) (L' := [some (.inr (.inr (some 79))), some (.inl p1), some (.inl p2), some (.inl 100), some (.inl l17_4), some (.inl ((16 * p1) + l17_4)), none]) (st' := [.inl (1106 + ((16 * p1) + l17_4)), .inr (.inr (some 80)), .inl (dt 80 ((1170 + ((16 * p1) + l17_4)).toNat))]) (w' := (SH, dt295)) rfl ?_
            have r308 : (-2147483648) ≤ dt 80 ((1106 + ((16 * p1) + l17_4)).toNat) ∧ dt 80 ((1106 + ((16 * p1) + l17_4)).toNat) ≤ 2147483647 := InvC_get hI 80 ((1106 + ((16 * p1) + l17_4)).toNat) rfl rfl
            refine go_smpq PM206 (L' := [some (.inr (.inr (some 79))), some (.inl p1), some (.inl p2), some (.inl 100), some (.inl l17_4), some (.inl ((16 * p1) + l17_4)), none]) (st' := [.inl (dt 80 ((1106 + ((16 * p1) + l17_4)).toNat)), .inl (dt 80 ((1170 + ((16 * p1) + l17_4)).toNat))]) (w' := (SH, dt295)) rfl rfl (s_ev (s_iald (n := 7460) (f := dt295 80) rfl ⟨by omega, by omega⟩) (hF297 80 (by decide) _)) ?_
            refine go_ifq PM206 (k := 0) (p1 := 118) (p2 := 84) (L' := [some (.inr (.inr (some 79))), some (.inl p1), some (.inl p2), some (.inl 100), some (.inl l17_4), some (.inl ((16 * p1) + l17_4)), none]) (st' := []) (w' := (SH, dt295)) rfl (c_le (a := dt 80 ((1170 + ((16 * p1) + l17_4)).toNat)) (b := dt 80 ((1106 + ((16 * p1) + l17_4)).toNat)) (by first | exact bnd r306 (by decide) (by decide) | exact ⟨by fail, by fail⟩) (by first | exact bnd r308 (by decide) (by decide) | exact ⟨by fail, by fail⟩)) (fun c309 => ?_) (fun c309 => ?_)
            · skip
              refine go_toq PM206 (k := 7) (pc' := 130) (L' := [some (.inr (.inr (some 79))), some (.inl p1), some (.inl p2), some (.inl 100), some (.inl l17_4), some (.inl ((16 * p1) + l17_4)), none]) (st' := [.inl (1042 + ((16 * p1) + l17_4)), .inr (.inr (some 80)), .inl p1, .inr (.inr (some 79))]) (w' := (SH, dt295)) rfl ?_
              have r310 : (-2147483648) ≤ dt 80 ((1042 + ((16 * p1) + l17_4)).toNat) ∧ dt 80 ((1042 + ((16 * p1) + l17_4)).toNat) ≤ 2147483647 := InvC_get hI 80 ((1042 + ((16 * p1) + l17_4)).toNat) rfl rfl
              refine go_smpq PM206 (L' := [some (.inr (.inr (some 79))), some (.inl p1), some (.inl p2), some (.inl 100), some (.inl l17_4), some (.inl ((16 * p1) + l17_4)), none]) (st' := [.inl (dt 80 ((1042 + ((16 * p1) + l17_4)).toNat)), .inl p1, .inr (.inr (some 79))]) (w' := (SH, dt295)) rfl rfl (s_ev (s_iald (n := 7460) (f := dt295 80) rfl ⟨by omega, by omega⟩) (hF297 80 (by decide) _)) ?_
              refine go_toq PM206 (k := 5) (pc' := 141) (L' := [some (.inr (.inr (some 79))), some (.inl p1), some (.inl p2), some (.inl 100), some (.inl l17_4), some (.inl ((16 * p1) + l17_4)), none]) (st' := [.inl (1106 + ((16 * p1) + l17_4)), .inr (.inr (some 80)), .inl (dt 80 ((1042 + ((16 * p1) + l17_4)).toNat)), .inl p1, .inr (.inr (some 79))]) (w' := (SH, dt295)) rfl ?_
              refine go_smpq PM206 (L' := [some (.inr (.inr (some 79))), some (.inl p1), some (.inl p2), some (.inl 100), some (.inl l17_4), some (.inl ((16 * p1) + l17_4)), none]) (st' := [.inl (dt 80 ((1106 + ((16 * p1) + l17_4)).toNat)), .inl (dt 80 ((1042 + ((16 * p1) + l17_4)).toNat)), .inl p1, .inr (.inr (some 79))]) (w' := (SH, dt295)) rfl rfl (s_ev (s_iald (n := 7460) (f := dt295 80) rfl ⟨by omega, by omega⟩) (hF297 80 (by decide) _)) ?_
              refine go_callq PM206 PM204 (Q' := _) rfl rfl rfl rfl (sp_X6_comesTo L xs sio (d + 0) dt295 hI296 (MW_fr hM hF297 (by decide))  p1 (by first | exact h_p1 | exact bnd h_p1 (by decide) (by decide) | exact ⟨by fail, by fail⟩) (dt 80 ((1042 + ((16 * p1) + l17_4)).toNat)) (by first | exact bnd r310 (by decide) (by decide) | exact ⟨by omega, by omega⟩) (dt 80 ((1106 + ((16 * p1) + l17_4)).toNat)) (by first | exact bnd r308 (by decide) (by decide) | exact ⟨by omega, by omega⟩) (by first | exact MW_s2 hM p1 l17_4 (by omega) (by omega) (by fail) | exact MW_s1 hM p1 l17_4 (by omega) (by omega) | (rw [show dt295 80 = dt 80 from funext (hF297 80 (by decide))]; first | exact MW_s2 hM p1 l17_4 (by omega) (by omega) (by fail) | exact MW_s1 hM p1 l17_4 (by omega) (by omega)))) ?_
              rintro _ _ ⟨dt312, rfl, hI313, hF314, h311⟩
              refine ⟨rfl, ?_⟩
              have hF315 : Fr [86] dt dt312 := Fr_tr hF297 hF314 (by decide)
              rcases h311 with ⟨v_h311, rfl, h311r, h311⟩
              rw [show dt295 80 = dt 80 from funext (hF297 80 (by decide)), show dt295 87 = dt 87 from funext (hF297 87 (by decide))] at h311
              refine go_ifq PM206 (k := 2) (p1 := 156) (p2 := 152) (L' := [some (.inr (.inr (some 79))), some (.inl p1), some (.inl p2), some (.inl 100), some (.inl l17_4), some (.inl ((16 * p1) + l17_4)), some (.inl v_h311)]) (st' := []) (w' := (SH, dt312)) rfl (z_ge (a := v_h311) (by first | exact bnd h311r (by decide) (by decide) | exact ⟨by fail, by fail⟩)) (fun c316 => ?_) (fun c316 => ?_)
              · skip
                refine go_ifq PM206 (k := 2) (p1 := 166) (p2 := 162) (L' := [some (.inr (.inr (some 79))), some (.inl p1), some (.inl p2), some (.inl 100), some (.inl l17_4), some (.inl ((16 * p1) + l17_4)), some (.inl v_h311)]) (st' := []) (w' := (SH, dt312)) rfl (c_le (a := v_h311) (b := 100) (by first | exact bnd h311r (by decide) (by decide) | exact ⟨by fail, by fail⟩) ⟨by decide, by decide⟩) (fun c317 => ?_) (fun c317 => ?_)
                · skip
                  refine go_retq PM206 (k := 1) (r := some (.inl v_h311)) (w1 := (SH, dt312)) rfl ?_
                  exact ⟨dt312, rfl, hI313, hF315, ⟨_, rfl, (by first | exact bnd h311r (by decide) (by decide) | exact ⟨by omega, by omega⟩), ⟨by first | exact (WI_e (by assumption) (by fail)).symm | (rw [← WI_v (i := l17_4) (by assumption) (by omega) (by omega) (by omega)]; unfold clp; (repeat (first | rw [if_pos (by fail)] | rw [if_neg (by omega)])); first | done | omega), by first | exact True.intro | with_reducible assumption | rfl | omega | trivial⟩⟩⟩
                · skip
                  refine go_retq PM206 (k := 2) (r := some (.inl 100)) (w1 := (SH, dt312)) rfl ?_
                  exact ⟨dt312, rfl, hI313, hF315, ⟨_, rfl, ⟨by decide, by decide⟩, ⟨by first | exact (WI_e (by assumption) (by fail)).symm | (rw [← WI_v (i := l17_4) (by assumption) (by omega) (by omega) (by omega)]; unfold clp; (repeat (first | rw [if_pos (by omega)] | rw [if_neg (by omega)])); first | done | fail), by first | exact True.intro | with_reducible assumption | rfl | omega | trivial⟩⟩⟩
              · skip
                refine go_retq PM206 (k := 2) (r := some (.inl 0)) (w1 := (SH, dt312)) rfl ?_
                exact ⟨dt312, rfl, hI313, hF315, ⟨_, rfl, ⟨by decide, by decide⟩, ⟨by first | exact (WI_e (by assumption) (by fail)).symm | (rw [← WI_v (i := l17_4) (by assumption) (by omega) (by omega) (by omega)]; unfold clp; (repeat (first | rw [if_pos (by omega)] | rw [if_neg (by fail)])); first | done | fail), by first | exact True.intro | with_reducible assumption | rfl | omega | trivial⟩⟩⟩
            · skip
              refine go_toq PM206 (k := 7) (pc' := 96) (L' := [some (.inr (.inr (some 79))), some (.inl p1), some (.inl p2), some (.inl 100), some (.inl l17_4), some (.inl ((16 * p1) + l17_4)), none]) (st' := [.inl (1106 + ((16 * p1) + l17_4)), .inr (.inr (some 80)), .inl p1, .inr (.inr (some 79))]) (w' := (SH, dt295)) rfl ?_
              refine go_smpq PM206 (L' := [some (.inr (.inr (some 79))), some (.inl p1), some (.inl p2), some (.inl 100), some (.inl l17_4), some (.inl ((16 * p1) + l17_4)), none]) (st' := [.inl (dt 80 ((1106 + ((16 * p1) + l17_4)).toNat)), .inl p1, .inr (.inr (some 79))]) (w' := (SH, dt295)) rfl rfl (s_ev (s_iald (n := 7460) (f := dt295 80) rfl ⟨by omega, by omega⟩) (hF297 80 (by decide) _)) ?_
              refine go_toq PM206 (k := 5) (pc' := 107) (L' := [some (.inr (.inr (some 79))), some (.inl p1), some (.inl p2), some (.inl 100), some (.inl l17_4), some (.inl ((16 * p1) + l17_4)), none]) (st' := [.inl (1170 + ((16 * p1) + l17_4)), .inr (.inr (some 80)), .inl (dt 80 ((1106 + ((16 * p1) + l17_4)).toNat)), .inl p1, .inr (.inr (some 79))]) (w' := (SH, dt295)) rfl ?_
              refine go_smpq PM206 (L' := [some (.inr (.inr (some 79))), some (.inl p1), some (.inl p2), some (.inl 100), some (.inl l17_4), some (.inl ((16 * p1) + l17_4)), none]) (st' := [.inl (dt 80 ((1170 + ((16 * p1) + l17_4)).toNat)), .inl (dt 80 ((1106 + ((16 * p1) + l17_4)).toNat)), .inl p1, .inr (.inr (some 79))]) (w' := (SH, dt295)) rfl rfl (s_ev (s_iald (n := 7460) (f := dt295 80) rfl ⟨by omega, by omega⟩) (hF297 80 (by decide) _)) ?_
              refine go_callq PM206 PM204 (Q' := _) rfl rfl rfl rfl (sp_X6_comesTo L xs sio (d + 0) dt295 hI296 (MW_fr hM hF297 (by decide))  p1 (by first | exact h_p1 | exact bnd h_p1 (by decide) (by decide) | exact ⟨by fail, by fail⟩) (dt 80 ((1106 + ((16 * p1) + l17_4)).toNat)) (by first | exact bnd r308 (by decide) (by decide) | exact ⟨by omega, by omega⟩) (dt 80 ((1170 + ((16 * p1) + l17_4)).toNat)) (by first | exact bnd r306 (by decide) (by decide) | exact ⟨by omega, by omega⟩) (by first | exact MW_s2 hM p1 l17_4 (by omega) (by omega) (by omega) | exact MW_s1 hM p1 l17_4 (by omega) (by omega) | (rw [show dt295 80 = dt 80 from funext (hF297 80 (by decide))]; first | exact MW_s2 hM p1 l17_4 (by omega) (by omega) (by omega) | exact MW_s1 hM p1 l17_4 (by fail) (by fail)))) ?_
              rintro _ _ ⟨dt319, rfl, hI320, hF321, h318⟩
              refine ⟨rfl, ?_⟩
              have hF322 : Fr [86] dt dt319 := Fr_tr hF297 hF321 (by decide)
              rcases h318 with ⟨v_h318, rfl, h318r, h318⟩
              rw [show dt295 80 = dt 80 from funext (hF297 80 (by decide)), show dt295 87 = dt 87 from funext (hF297 87 (by decide))] at h318
              refine go_ifq PM206 (k := 1) (p1 := 118) (p2 := 115) (L' := [some (.inr (.inr (some 79))), some (.inl p1), some (.inl p2), some (.inl 100), some (.inl l17_4), some (.inl ((16 * p1) + l17_4)), none]) (st' := []) (w' := (SH, dt319)) rfl (c_eq (a := v_h318) (b := 1) (by first | exact bnd h318r (by decide) (by decide) | exact ⟨by fail, by fail⟩) ⟨by decide, by decide⟩) (fun c323 => ?_) (fun c323 => ?_)
              · skip
                refine go_toq PM206 (k := 7) (pc' := 130) (L' := [some (.inr (.inr (some 79))), some (.inl p1), some (.inl p2), some (.inl 100), some (.inl l17_4), some (.inl ((16 * p1) + l17_4)), none]) (st' := [.inl (1042 + ((16 * p1) + l17_4)), .inr (.inr (some 80)), .inl p1, .inr (.inr (some 79))]) (w' := (SH, dt319)) rfl ?_
                have r324 : (-2147483648) ≤ dt 80 ((1042 + ((16 * p1) + l17_4)).toNat) ∧ dt 80 ((1042 + ((16 * p1) + l17_4)).toNat) ≤ 2147483647 := InvC_get hI 80 ((1042 + ((16 * p1) + l17_4)).toNat) rfl rfl
                refine go_smpq PM206 (L' := [some (.inr (.inr (some 79))), some (.inl p1), some (.inl p2), some (.inl 100), some (.inl l17_4), some (.inl ((16 * p1) + l17_4)), none]) (st' := [.inl (dt 80 ((1042 + ((16 * p1) + l17_4)).toNat)), .inl p1, .inr (.inr (some 79))]) (w' := (SH, dt319)) rfl rfl (s_ev (s_iald (n := 7460) (f := dt319 80) rfl ⟨by omega, by omega⟩) (hF322 80 (by decide) _)) ?_
                refine go_toq PM206 (k := 5) (pc' := 141) (L' := [some (.inr (.inr (some 79))), some (.inl p1), some (.inl p2), some (.inl 100), some (.inl l17_4), some (.inl ((16 * p1) + l17_4)), none]) (st' := [.inl (1106 + ((16 * p1) + l17_4)), .inr (.inr (some 80)), .inl (dt 80 ((1042 + ((16 * p1) + l17_4)).toNat)), .inl p1, .inr (.inr (some 79))]) (w' := (SH, dt319)) rfl ?_
                refine go_smpq PM206 (L' := [some (.inr (.inr (some 79))), some (.inl p1), some (.inl p2), some (.inl 100), some (.inl l17_4), some (.inl ((16 * p1) + l17_4)), none]) (st' := [.inl (dt 80 ((1106 + ((16 * p1) + l17_4)).toNat)), .inl (dt 80 ((1042 + ((16 * p1) + l17_4)).toNat)), .inl p1, .inr (.inr (some 79))]) (w' := (SH, dt319)) rfl rfl (s_ev (s_iald (n := 7460) (f := dt319 80) rfl ⟨by omega, by omega⟩) (hF322 80 (by decide) _)) ?_
                refine go_callq PM206 PM204 (Q' := _) rfl rfl rfl rfl (sp_X6_comesTo L xs sio (d + 0) dt319 hI320 (MW_fr hM hF322 (by decide))  p1 (by first | exact h_p1 | exact bnd h_p1 (by decide) (by decide) | exact ⟨by fail, by fail⟩) (dt 80 ((1042 + ((16 * p1) + l17_4)).toNat)) (by first | exact bnd r324 (by decide) (by decide) | exact ⟨by omega, by omega⟩) (dt 80 ((1106 + ((16 * p1) + l17_4)).toNat)) (by first | exact bnd r308 (by decide) (by decide) | exact ⟨by omega, by omega⟩) (by first | exact MW_s2 hM p1 l17_4 (by omega) (by omega) (by omega) | exact MW_s1 hM p1 l17_4 (by omega) (by omega) | (rw [show dt319 80 = dt 80 from funext (hF322 80 (by decide))]; first | exact MW_s2 hM p1 l17_4 (by omega) (by omega) (by omega) | exact MW_s1 hM p1 l17_4 (by omega) (by omega)))) ?_
                rintro _ _ ⟨dt326, rfl, hI327, hF328, h325⟩
                refine ⟨rfl, ?_⟩
                have hF329 : Fr [86] dt dt326 := Fr_tr hF322 hF328 (by decide)
                rcases h325 with ⟨v_h325, rfl, h325r, h325⟩
                rw [show dt319 80 = dt 80 from funext (hF322 80 (by decide)), show dt319 87 = dt 87 from funext (hF322 87 (by decide))] at h325
                refine go_ifq PM206 (k := 2) (p1 := 156) (p2 := 152) (L' := [some (.inr (.inr (some 79))), some (.inl p1), some (.inl p2), some (.inl 100), some (.inl l17_4), some (.inl ((16 * p1) + l17_4)), some (.inl v_h325)]) (st' := []) (w' := (SH, dt326)) rfl (z_ge (a := v_h325) (by first | exact bnd h325r (by decide) (by decide) | exact ⟨by fail, by fail⟩)) (fun c330 => ?_) (fun c330 => ?_)
                · skip
                  refine go_ifq PM206 (k := 2) (p1 := 166) (p2 := 162) (L' := [some (.inr (.inr (some 79))), some (.inl p1), some (.inl p2), some (.inl 100), some (.inl l17_4), some (.inl ((16 * p1) + l17_4)), some (.inl v_h325)]) (st' := []) (w' := (SH, dt326)) rfl (c_le (a := v_h325) (b := 100) (by first | exact bnd h325r (by decide) (by decide) | exact ⟨by fail, by fail⟩) ⟨by decide, by decide⟩) (fun c331 => ?_) (fun c331 => ?_)
                  · skip
                    refine go_retq PM206 (k := 1) (r := some (.inl v_h325)) (w1 := (SH, dt326)) rfl ?_
                    exact ⟨dt326, rfl, hI327, hF329, ⟨_, rfl, (by first | exact bnd h325r (by decide) (by decide) | exact ⟨by omega, by omega⟩), ⟨by first | exact (WI_e (by assumption) (by fail)).symm | (rw [← WI_v (i := l17_4) (by assumption) (by omega) (by omega) (by omega)]; unfold clp; (repeat (first | rw [if_pos (by fail)] | rw [if_neg (by omega)])); first | done | omega), by first | exact True.intro | with_reducible assumption | rfl | omega | trivial⟩⟩⟩
                  · skip
                    refine go_retq PM206 (k := 2) (r := some (.inl 100)) (w1 := (SH, dt326)) rfl ?_
                    exact ⟨dt326, rfl, hI327, hF329, ⟨_, rfl, ⟨by decide, by decide⟩, ⟨by first | exact (WI_e (by assumption) (by fail)).symm | (rw [← WI_v (i := l17_4) (by assumption) (by omega) (by omega) (by omega)]; unfold clp; (repeat (first | rw [if_pos (by omega)] | rw [if_neg (by omega)])); first | done | fail), by first | exact True.intro | with_reducible assumption | rfl | omega | trivial⟩⟩⟩
                · skip
                  refine go_retq PM206 (k := 2) (r := some (.inl 0)) (w1 := (SH, dt326)) rfl ?_
                  exact ⟨dt326, rfl, hI327, hF329, ⟨_, rfl, ⟨by decide, by decide⟩, ⟨by first | exact (WI_e (by assumption) (by fail)).symm | (rw [← WI_v (i := l17_4) (by assumption) (by omega) (by omega) (by omega)]; unfold clp; (repeat (first | rw [if_pos (by omega)] | rw [if_neg (by fail)])); first | done | fail), by first | exact True.intro | with_reducible assumption | rfl | omega | trivial⟩⟩⟩
              · skip
                replace c323 := hid c323
                refine go_toq PM206 (k := 3) (pc' := 17) (L' := [some (.inr (.inr (some 79))), some (.inl p1), some (.inl p2), some (.inl 100), some (.inl (l17_4 + 1)), some (.inl ((16 * p1) + l17_4)), none]) (st' := []) (w' := (SH, dt319)) rfl ?_
                exact GO.le (ih_loop300 (l17_4 + 1) dt319 hI320 hF322 (by first | with_reducible assumption | exact unhid (by with_reducible assumption) | omega | exact WI_0 | exact WI_n1 (by assumption) (by fail) (by fail) | exact WI_n2 (by assumption) (by fail) (by fail) (by fail) (by fail)) (by first | with_reducible assumption | exact unhid (by with_reducible assumption) | fail | exact WI_0 | exact WI_n1 (by assumption) (by omega) (by fail) | exact WI_n2 (by assumption) (by omega) (by omega) (by omega) (by (have z0_ := unhid c323; omega))) (by omega)) ⟨.inl rfl, .inl rfl, .inl rfl, .inl rfl, .inl rfl, .inr ⟨rfl, trivial⟩, .inl rfl, trivial⟩
          · skip
            replace c305 := hid c305
            refine go_toq PM206 (k := 3) (pc' := 17) (L' := [some (.inr (.inr (some 79))), some (.inl p1), some (.inl p2), some (.inl 100), some (.inl (l17_4 + 1)), some (.inl ((16 * p1) + l17_4)), none]) (st' := []) (w' := (SH, dt295)) rfl ?_
            exact GO.le (ih_loop300 (l17_4 + 1) dt295 hI296 hF297 (by first | with_reducible assumption | exact unhid (by with_reducible assumption) | omega | exact WI_0 | exact WI_n1 (by assumption) (by fail) (by fail) | exact WI_n2 (by assumption) (by fail) (by fail) (by fail) (by fail)) (by first | with_reducible assumption | exact unhid (by with_reducible assumption) | fail | exact WI_0 | exact WI_n1 (by assumption) (by omega) (by (have z0_ := unhid c305; omega)) | exact WI_n2 (by assumption) (by fail) (by fail) (by fail) (by fail)) (by omega)) ⟨.inl rfl, .inl rfl, .inl rfl, .inl rfl, .inl rfl, .inr ⟨rfl, trivial⟩, .inl rfl, trivial⟩
    exact GO.le (loop300 _ 0 dt hI hF (by first | with_reducible assumption | omega | exact WI_0 | exact WI_n1 (by assumption) (by fail) (by fail) | exact WI_n2 (by assumption) (by fail) (by fail) (by fail) (by fail)) (by first | with_reducible assumption | fail | exact WI_0 | exact WI_n1 (by assumption) (by fail) (by fail) | exact WI_n2 (by assumption) (by fail) (by fail) (by fail) (by fail)) (Nat.lt_succ_self _)) ⟨.inl rfl, .inl rfl, .inl rfl, .inl rfl, .inl rfl, .inl rfl, .inl rfl, trivial⟩
set_option maxRecDepth 20000 in
theorem sp_X6_weight (L : Nat) (xs : Nat → Int32) (sio : Option Nat) (d : Nat) (dt : Nat → Nat → Int) (hI : InvC dt) (hM : MW (dt 80))  (p1 : Int) (h_p1 : (-2147483648) ≤ p1 ∧ p1 ≤ 2147483647) (p2 : Int) (h_p2 : (-2147483648) ≤ p2 ∧ p2 ≤ 2147483647) (p3 : Int) (h_p3 : (-2147483648) ≤ p3 ∧ p3 ≤ 2147483647) (p4 : Int) (h_p4 : (-2147483648) ≤ p4 ∧ p4 ≤ 2147483647)  : GO (am_XX L xs sio) (d + 6) 207 0 [some (.inr (.inr (some 79))), some (.inl p1), some (.inl p2), some (.inl p3), some (.inl p4)] [] (SH, dt) (fun r w2 => ∃ dt2 : Nat → Nat → Int, w2 = (SH, dt2) ∧ InvC dt2 ∧ Fr [86, 87, 88, 89, 90, 91, 92, 93, 94, 95, 96, 97, 98, 99, 100] dt dt2 ∧ ((∃ v : Int, r = some (.inl v) ∧ ((-1) ≤ v ∧ v ≤ 100) ∧ True))) := by
  have hF : Fr [86, 87, 88, 89, 90, 91, 92, 93, 94, 95, 96, 97, 98, 99, 100] dt dt := Fr_refl
  refine go_toq PM207 (k := 2) (pc' := 2) (L' := [some (.inr (.inr (some 79))), some (.inl p1), some (.inl p2), some (.inl p3), some (.inl p4)]) (st' := [.inl p1, .inr (.inr (some 79))]) (w' := (SH, dt)) rfl ?_
  refine go_callq PM207 PM199 (Q' := _) rfl rfl rfl rfl (sp_X6_isChild L xs sio (d + 4) dt hI hM  p1 (by first | exact h_p1 | exact bnd h_p1 (by decide) (by decide) | exact ⟨by omega, by omega⟩) ) ?_
  rintro _ _ ⟨rfl, h1⟩
  refine ⟨rfl, ?_⟩
  rcases h1 with ⟨rfl, h1⟩ | ⟨rfl, h1⟩
  · skip
    refine go_toq PM207 (k := 3) (pc' := 10) (L' := [some (.inr (.inr (some 79))), some (.inl p1), some (.inl p2), some (.inl p3), some (.inl p4)]) (st' := [.inl p2, .inr (.inr (some 79))]) (w' := (SH, dt)) rfl ?_
    refine go_callq PM207 PM192 (Q' := _) rfl rfl rfl rfl (sp_X6_isQuestion L xs sio (d + 4) dt hI hM  p2 (by first | exact h_p2 | exact bnd h_p2 (by decide) (by decide) | exact ⟨by omega, by omega⟩) ) ?_
    rintro _ _ ⟨rfl, h2⟩
    refine ⟨rfl, ?_⟩
    rcases h2 with ⟨rfl, h2⟩ | ⟨rfl, h2⟩
    · skip
      refine go_toq PM207 (k := 2) (pc' := 17) (L' := [some (.inr (.inr (some 79))), some (.inl p1), some (.inl p2), some (.inl p3), some (.inl p4)]) (st' := [.inl p3]) (w' := (SH, dt)) rfl ?_
      refine go_callq PM207 PM201 (Q' := _) rfl rfl rfl rfl (sp_X6_isHow L xs sio (d + 4) dt hI  p3 (by first | exact h_p3 | exact bnd h_p3 (by decide) (by decide) | exact ⟨by omega, by omega⟩) ) ?_
      rintro _ _ ⟨rfl, h3⟩
      refine ⟨rfl, ?_⟩
      rcases h3 with ⟨rfl, h3⟩ | ⟨rfl, h3⟩
      · skip
        refine go_toq PM207 (k := 4) (pc' := 28) (L' := [some (.inr (.inr (some 79))), some (.inl p1), some (.inl p2), some (.inl p3), some (.inl p4)]) (st' := [.inl 8, .inl 0, .inl p4]) (w' := (SH, dt)) rfl ?_
        refine go_callq PM207 PM146 (Q' := _) rfl rfl rfl rfl (sp_X6_isIn L xs sio (d + 5) dt hI  p4 (by first | exact h_p4 | exact bnd h_p4 (by decide) (by decide) | exact ⟨by omega, by omega⟩) 0 ⟨by decide, by decide⟩ 8 ⟨by decide, by decide⟩ ) ?_
        rintro _ _ ⟨rfl, h4⟩
        refine ⟨rfl, ?_⟩
        rcases h4 with ⟨rfl, h4⟩ | ⟨rfl, h4⟩
        · skip
          refine go_toq PM207 (k := 5) (pc' := 40) (L' := [some (.inr (.inr (some 79))), some (.inl p1), some (.inl p2), some (.inl p3), some (.inl p4)]) (st' := [.inl p3, .inl p2, .inl p1, .inr (.inr (some 79))]) (w' := (SH, dt)) rfl ?_
          refine go_callq PM207 PM205 (Q' := _) rfl rfl rfl rfl (sp_X6_gathers L xs sio (d + 0) dt hI hM  p1 (by first | exact h_p1 | exact bnd h_p1 (by decide) (by decide) | exact ⟨by omega, by omega⟩) p2 (by first | exact h_p2 | exact bnd h_p2 (by decide) (by decide) | exact ⟨by omega, by omega⟩) p3 (by first | exact h_p3 | exact bnd h_p3 (by decide) (by decide) | exact ⟨by omega, by omega⟩) ) ?_
          rintro _ _ ⟨dt6, rfl, hI7, hF8, h5⟩
          refine ⟨rfl, ?_⟩
          have hF9 : Fr [86, 87, 88, 89, 90, 91, 92, 93, 94, 95, 96, 97, 98, 99, 100] dt dt6 := Fr_tr hF hF8 (by decide)
          rcases h5 with ⟨rfl, h5⟩
          refine go_toq PM207 (k := 4) (pc' := 47) (L' := [some (.inr (.inr (some 79))), some (.inl p1), some (.inl p2), some (.inl p3), some (.inl p4)]) (st' := [.inl 0, .inl p1, .inr (.inr (some 79)), .inr (.inr (some 79))]) (w' := (SH, dt6)) rfl ?_
          refine go_callq PM207 PM198 (Q' := _) rfl rfl rfl rfl (sp_X6_ofChild_0 L xs sio (d + 5) dt6 hI7 (MW_fr hM hF9 (by decide))  p1 (by first | exact h_p1 | exact bnd h_p1 (by decide) (by decide) | exact ⟨by omega, by omega⟩) ) ?_
          rintro _ _ ⟨rfl, h10⟩
          refine ⟨rfl, ?_⟩
          rcases h10 with ⟨rfl, h10⟩
          refine go_toq PM207 (k := 1) (pc' := 52) (L' := [some (.inr (.inr (some 79))), some (.inl p1), some (.inl p2), some (.inl p3), some (.inl p4)]) (st' := [.inl p4, .inl (dt6 80 (((5380 + (4 * p1)) + 0)).toNat), .inr (.inr (some 79))]) (w' := (SH, dt6)) rfl ?_
          refine go_callq PM207 PM206 (Q' := _) rfl rfl rfl rfl (sp_X6_weighs L xs sio (d + 3) dt6 hI7 (MW_fr hM hF9 (by decide))  (dt6 80 (((5380 + (4 * p1)) + 0)).toNat) ⟨by omega, by omega⟩ p4 (by first | exact h_p4 | exact bnd h_p4 (by decide) (by decide) | exact ⟨by omega, by omega⟩) ) ?_
          rintro _ _ ⟨dt12, rfl, hI13, hF14, h11⟩
          refine ⟨rfl, ?_⟩
          have hF15 : Fr [86, 87, 88, 89, 90, 91, 92, 93, 94, 95, 96, 97, 98, 99, 100] dt dt12 := Fr_tr hF9 hF14 (by decide)
          rcases h11 with ⟨v_h11, rfl, h11r, h11⟩
          refine go_retq PM207 (k := 0) (r := some (.inl v_h11)) (w1 := (SH, dt12)) rfl ?_
          exact ⟨dt12, rfl, hI13, hF15, ⟨_, rfl, (by first | exact bnd h11r (by decide) (by decide) | exact ⟨by omega, by omega⟩), trivial⟩⟩
        · skip
          refine go_retq PM207 (k := 2) (r := some (.inl (-1))) (w1 := (SH, dt)) rfl ?_
          exact ⟨dt, rfl, hI, hF, ⟨_, rfl, ⟨by decide, by decide⟩, trivial⟩⟩
      · skip
        refine go_retq PM207 (k := 2) (r := some (.inl (-1))) (w1 := (SH, dt)) rfl ?_
        exact ⟨dt, rfl, hI, hF, ⟨_, rfl, ⟨by decide, by decide⟩, trivial⟩⟩
    · skip
      refine go_retq PM207 (k := 2) (r := some (.inl (-1))) (w1 := (SH, dt)) rfl ?_
      exact ⟨dt, rfl, hI, hF, ⟨_, rfl, ⟨by decide, by decide⟩, trivial⟩⟩
  · skip
    refine go_retq PM207 (k := 2) (r := some (.inl (-1))) (w1 := (SH, dt)) rfl ?_
    exact ⟨dt, rfl, hI, hF, ⟨_, rfl, ⟨by decide, by decide⟩, trivial⟩⟩
set_option maxRecDepth 20000 in
theorem sp_X6_allWeights (L : Nat) (xs : Nat → Int32) (sio : Option Nat) (d : Nat) (dt : Nat → Nat → Int) (hI : InvC dt) (hM : MW (dt 80))  (p1 : Int) (h_p1 : 0 ≤ p1 ∧ p1 ≤ 3)  : GO (am_XX L xs sio) (d + 3) 208 0 [some (.inr (.inr (some 79))), some (.inl p1), none, none] [] (SH, dt) (fun r w2 => ∃ dt2 : Nat → Nat → Int, w2 = (SH, dt2) ∧ InvC dt2 ∧ Fr [86] dt dt2 ∧ ((∃ v : Int, r = some (.inl v) ∧ (0 ≤ v ∧ v ≤ 792) ∧ (v = WS (dt 80) (dt 87) p1 8)))) := by
  have hF : Fr [86] dt dt := Fr_refl
  refine go_toq PM208 (k := 4) (pc' := 4) (L' := [some (.inr (.inr (some 79))), some (.inl p1), some (.inl 0), some (.inl 0)]) (st' := []) (w' := (SH, dt)) rfl ?_
  have loop43 : ∀ (k_ : Nat) (l4_2 : Int) (l4_3 : Int) (dt36 : Nat → Nat → Int) (hI37 : InvC dt36) (hF38 : Fr [86] dt dt36) (i39 : 0 ≤ l4_2 ∧ l4_2 ≤ 792) (i40 : 0 ≤ l4_3 ∧ l4_3 ≤ 8) (i41 : l4_2 = WS (dt 80) (dt 87) p1 (l4_3).toNat) (i42 : l4_2 ≤ 99 * l4_3), (9 - l4_3).toNat < k_ → GO (am_XX L xs sio) (d + 3) 208 4 [some (.inr (.inr (some 79))), some (.inl p1), some (.inl l4_2), some (.inl l4_3)] [] (SH, dt36) (fun r w2 => ∃ dt2 : Nat → Nat → Int, w2 = (SH, dt2) ∧ InvC dt2 ∧ Fr [86] dt dt2 ∧ ((∃ v : Int, r = some (.inl v) ∧ (0 ≤ v ∧ v ≤ 792) ∧ (v = WS (dt 80) (dt 87) p1 8)))) := by
    intro k_
    induction k_ with
    | zero => intro l4_2 l4_3 dt36 hI37 hF38 i39 i40 i41 i42 hm; exact absurd hm (Nat.not_lt_zero _)
    | succ k_ ih_loop43 =>
      intro l4_2 l4_3 dt36 hI37 hF38 i39 i40 i41 i42 hm
      have hs := WS_s (f := dt 80) (fa := dt 87) (l := p1) (r := l4_3) (by omega)
      refine go_ifq PM208 (k := 2) (p1 := 25) (p2 := 10) (L' := [some (.inr (.inr (some 79))), some (.inl p1), some (.inl l4_2), some (.inl l4_3)]) (st' := []) (w' := (SH, dt36)) rfl (c_ge (a := l4_3) (b := 8) (by first | exact bnd i40 (by decide) (by decide) | exact ⟨by fail, by fail⟩) ⟨by decide, by decide⟩) (fun c50 => ?_) (fun c50 => ?_)
      · skip
        refine go_retq PM208 (k := 1) (r := some (.inl l4_2)) (w1 := (SH, dt36)) rfl ?_
        exact ⟨dt36, rfl, hI37, hF38, ⟨_, rfl, (by first | exact bnd i39 (by decide) (by decide) | exact ⟨by fail, by fail⟩), by first | assumption | (have e : l4_3 = 8 := (by omega); subst e; assumption)⟩⟩
      · skip
        refine go_toq PM208 (k := 4) (pc' := 14) (L' := [some (.inr (.inr (some 79))), some (.inl p1), some (.inl l4_2), some (.inl l4_3)]) (st' := [.inl l4_3, .inl p1, .inr (.inr (some 79)), .inl l4_2]) (w' := (SH, dt36)) rfl ?_
        refine go_callq PM208 PM206 (Q' := _) rfl rfl rfl rfl (sp_X6_weighs L xs sio (d + 0) dt36 hI37 (MW_fr hM hF38 (by decide))  p1 (by first | exact h_p1 | exact bnd h_p1 (by decide) (by decide) | exact ⟨by fail, by fail⟩) l4_3 (by first | exact bnd i40 (by decide) (by decide) | exact bndd i40 c50 (by decide) (by decide) | exact ⟨by fail, by fail⟩) ) ?_
        rintro _ _ ⟨dt52, rfl, hI53, hF54, h51⟩
        refine ⟨rfl, ?_⟩
        have hF55 : Fr [86] dt dt52 := Fr_tr hF38 hF54 (by decide)
        rcases h51 with ⟨v_h51, rfl, h51r, h51⟩
        rw [show dt36 80 = dt 80 from funext (hF38 80 (by decide)), show dt36 87 = dt 87 from funext (hF38 87 (by decide))] at h51
        refine go_toq PM208 (k := 4) (pc' := 4) (L' := [some (.inr (.inr (some 79))), some (.inl p1), some (.inl (l4_2 + v_h51)), some (.inl (l4_3 + 1))]) (st' := []) (w' := (SH, dt52)) rfl ?_
        exact GO.le (ih_loop43 (l4_2 + v_h51) (l4_3 + 1) dt52 hI53 hF55 (by first | omega | rfl) (by first | omega | rfl) (by first | omega | rfl) (by first | omega | rfl) (by omega)) ⟨.inl rfl, .inl rfl, .inl rfl, .inl rfl, trivial⟩
  exact GO.le (loop43 _ 0 0 dt hI hF (by first | omega | rfl) (by first | omega | rfl) (by first | fail | rfl) (by first | omega | rfl) (Nat.lt_succ_self _)) ⟨.inl rfl, .inl rfl, .inl rfl, .inl rfl, trivial⟩
set_option maxRecDepth 20000 in
theorem sp_X6_draw (L : Nat) (xs : Nat → Int32) (sio : Option Nat) (d : Nat) (dt : Nat → Nat → Int) (hI : InvC dt) (hM : MW (dt 80))  (p1 : Int) (h_p1 : 1 ≤ p1 ∧ p1 ≤ 1000)  : GO (am_XX L xs sio) (d) 150 0 [some (.inr (.inr (some 79))), some (.inl p1)] [] (SH, dt) (fun r w2 => ∃ dt2 : Nat → Nat → Int, w2 = (SH, dt2) ∧ InvC dt2 ∧ Fr [80] dt dt2 ∧ ((∃ v : Int, r = some (.inl v) ∧ (0 ≤ v ∧ v ≤ 999) ∧ (v < p1) ∧ (dt2 80 0 = wr (1664525 * dt 80 0 + 1013904223)) ∧ (∀ j, 1 ≤ j → dt2 80 j = dt 80 j) ∧ (MW (dt2 80))))) := by
  have hF : Fr [80] dt dt := Fr_refl
  refine go_toq PM150 (k := 7) (pc' := 12) (L' := [some (.inr (.inr (some 79))), some (.inl p1)]) (st' := [.inl 0, .inr (.inr (some 80)), .inl 1664525, .inl 0, .inr (.inr (some 80))]) (w' := (SH, dt)) rfl ?_
  have r1 : (-2147483648) ≤ dt 80 0 ∧ dt 80 0 ≤ 2147483647 := InvC_get hI 80 0 rfl rfl
  refine go_smpq PM150 (L' := [some (.inr (.inr (some 79))), some (.inl p1)]) (st' := [.inl (dt 80 0), .inl 1664525, .inl 0, .inr (.inr (some 80))]) (w' := (SH, dt)) rfl rfl (s_iald (n := 7460) (f := dt 80) rfl ⟨by decide, by decide⟩) ?_
  refine go_toq PM150 (k := 3) (pc' := 17) (L' := [some (.inr (.inr (some 79))), some (.inl p1)]) (st' := [.inl ((1664525 * (dt 80 0)) + 1013904223), .inl 0, .inr (.inr (some 80))]) (w' := (SH, dt)) rfl ?_
  have r2 := wr_RR ((1664525 * (dt 80 0)) + 1013904223)
  have hI3 : InvC (u2 dt 80 0 (wr ((1664525 * (dt 80 0)) + 1013904223))) := InvC_u2 hI (lo := -2147483648) (hi := 2147483647) rfl rfl rfl (by omega) (by omega)
  have hF4 : Fr [80] dt (u2 dt 80 0 (wr ((1664525 * (dt 80 0)) + 1013904223))) := Fr_u2 hF (by decide)
  refine go_smpq PM150 (L' := [some (.inr (.inr (some 79))), some (.inl p1)]) (st' := []) (w' := (SH, (u2 dt 80 0 (wr ((1664525 * (dt 80 0)) + 1013904223))))) rfl rfl (s_iastw (n := 7460) rfl ⟨by decide, by decide⟩) ?_
  refine go_toq PM150 (k := 3) (pc' := 23) (L' := [some (.inr (.inr (some 79))), some (.inl p1)]) (st' := [.inl 0, .inr (.inr (some 80))]) (w' := (SH, (u2 dt 80 0 (wr ((1664525 * (dt 80 0)) + 1013904223))))) rfl ?_
  refine go_smpq PM150 (L' := [some (.inr (.inr (some 79))), some (.inl p1)]) (st' := [.inl (wr ((1664525 * (dt 80 0)) + 1013904223))]) (w' := (SH, (u2 dt 80 0 (wr ((1664525 * (dt 80 0)) + 1013904223))))) rfl rfl (s_iald (n := 7460) (f := (u2 dt 80 0 (wr ((1664525 * (dt 80 0)) + 1013904223))) 80) rfl ⟨by decide, by decide⟩) ?_
  have r5 : 0 ≤ am_ushr (wr ((1664525 * (dt 80 0)) + 1013904223)) 8 ∧ am_ushr (wr ((1664525 * (dt 80 0)) + 1013904223)) 8 ≤ 16777215 := ushr8_R
  refine go_toq PM150 (k := 3) (pc' := 28) (L' := [some (.inr (.inr (some 79))), some (.inl p1)]) (st' := [.inl p1, .inl (am_ushr (wr ((1664525 * (dt 80 0)) + 1013904223)) 8)]) (w' := (SH, (u2 dt 80 0 (wr ((1664525 * (dt 80 0)) + 1013904223))))) rfl ?_
  have r6 : 0 ≤ (am_ushr (wr ((1664525 * (dt 80 0)) + 1013904223)) 8) % p1 ∧ (am_ushr (wr ((1664525 * (dt 80 0)) + 1013904223)) 8) % p1 < p1 := mod_R (by omega)
  refine go_smpq PM150 (L' := [some (.inr (.inr (some 79))), some (.inl p1)]) (st' := [.inl ((am_ushr (wr ((1664525 * (dt 80 0)) + 1013904223)) 8) % p1)]) (w' := (SH, (u2 dt 80 0 (wr ((1664525 * (dt 80 0)) + 1013904223))))) rfl rfl (s_iremc ⟨by omega, by omega⟩ ⟨by omega, by omega⟩) ?_
  refine go_retq PM150 (k := 0) (r := some (.inl ((am_ushr (wr ((1664525 * (dt 80 0)) + 1013904223)) 8) % p1))) (w1 := (SH, (u2 dt 80 0 (wr ((1664525 * (dt 80 0)) + 1013904223))))) rfl ?_
  exact ⟨(u2 dt 80 0 (wr ((1664525 * (dt 80 0)) + 1013904223))), rfl, hI3, hF4, ⟨_, rfl, ⟨by omega, by omega⟩, ⟨by first | exact True.intro | with_reducible assumption | rfl | omega | trivial, by first | exact u2_eq | rfl, by exact fun j hj => u2_ne (by omega), by exact MW_cop hM (fun j h1 _ => u2_ne (by omega))⟩⟩⟩
set_option maxRecDepth 20000 in
theorem sp_X6_chanceOf (L : Nat) (xs : Nat → Int32) (sio : Option Nat) (d : Nat) (dt : Nat → Nat → Int) (hI : InvC dt) (hM : MW (dt 80))  (p1 : Int) (h_p1 : 0 ≤ p1 ∧ p1 ≤ 3) (p2 : Int) (h_p2 : 0 ≤ p2 ∧ p2 ≤ 39) (p3 : Int) (h_p3 : 0 ≤ p3 ∧ p3 ≤ 11) (p4 : Int) (h_p4 : 0 ≤ p4 ∧ p4 ≤ 3) (p5 : Int) (h_p5 : (-2147483648) ≤ p5 ∧ p5 ≤ 2147483647)  : GO (am_XX L xs sio) (d + 6) 215 0 [some (.inr (.inr (some 79))), some (.inl p1), some (.inl p2), some (.inl p3), some (.inl p4), some (.inl p5), none, none, none, none] [] (SH, dt) (fun r w2 => ∃ dt2 : Nat → Nat → Int, w2 = (SH, dt2) ∧ InvC dt2 ∧ Fr [86, 87, 88, 89, 90, 91, 92, 93, 94, 95, 96, 97, 98, 99, 100] dt dt2 ∧ ((∃ v : Int, r = some (.inl v) ∧ True ∧ True))) := by
  have hF : Fr [86, 87, 88, 89, 90, 91, 92, 93, 94, 95, 96, 97, 98, 99, 100] dt dt := Fr_refl
  refine go_toq PM215 (k := 4) (pc' := 5) (L' := [some (.inr (.inr (some 79))), some (.inl p1), some (.inl p2), some (.inl p3), some (.inl p4), some (.inl p5), none, none, none, none]) (st' := [.inl p4, .inl p3, .inl p2, .inr (.inr (some 79))]) (w' := (SH, dt)) rfl ?_
  refine go_callq PM215 PM205 (Q' := _) rfl rfl rfl rfl (sp_X6_gathers L xs sio (d + 0) dt hI hM  p2 (by first | exact h_p2 | exact bnd h_p2 (by decide) (by decide) | exact ⟨by fail, by fail⟩) p3 (by first | exact h_p3 | exact bnd h_p3 (by decide) (by decide) | exact ⟨by fail, by fail⟩) p4 (by first | exact h_p4 | exact bnd h_p4 (by decide) (by decide) | exact ⟨by fail, by fail⟩) ) ?_
  rintro _ _ ⟨dt2, rfl, hI3, hF4, h1⟩
  refine ⟨rfl, ?_⟩
  have hF5 : Fr [86, 87, 88, 89, 90, 91, 92, 93, 94, 95, 96, 97, 98, 99, 100] dt dt2 := Fr_tr hF hF4 (by decide)
  rcases h1 with ⟨rfl, h1⟩
  refine go_toq PM215 (k := 2) (pc' := 10) (L' := [some (.inr (.inr (some 79))), some (.inl p1), some (.inl p2), some (.inl p3), some (.inl p4), some (.inl p5), none, none, none, none]) (st' := [.inl p1, .inr (.inr (some 79))]) (w' := (SH, dt2)) rfl ?_
  refine go_callq PM215 PM208 (Q' := _) rfl rfl rfl rfl (sp_X6_allWeights L xs sio (d + 2) dt2 hI3 (MW_fr hM hF5 (by decide))  p1 (by first | exact h_p1 | exact bnd h_p1 (by decide) (by decide) | exact ⟨by fail, by fail⟩) ) ?_
  rintro _ _ ⟨dt7, rfl, hI8, hF9, h6⟩
  refine ⟨rfl, ?_⟩
  have hF10 : Fr [86, 87, 88, 89, 90, 91, 92, 93, 94, 95, 96, 97, 98, 99, 100] dt dt7 := Fr_tr hF5 hF9 (by decide)
  rcases h6 with ⟨v_h6, rfl, h6r, h6⟩
  refine go_toq PM215 (k := 4) (pc' := 19) (L' := [some (.inr (.inr (some 79))), some (.inl p1), some (.inl p2), some (.inl p3), some (.inl p4), some (.inl p5), some (.inl v_h6), none, none, none]) (st' := [.inl 8, .inl p1, .inr (.inr (some 79))]) (w' := (SH, dt7)) rfl ?_
  refine go_callq PM215 PM206 (Q' := _) rfl rfl rfl rfl (sp_X6_weighs L xs sio (d + 3) dt7 hI8 (MW_fr hM hF10 (by decide))  p1 (by first | exact h_p1 | exact bnd h_p1 (by decide) (by decide) | exact ⟨by fail, by fail⟩) 8 ⟨by decide, by decide⟩ ) ?_
  rintro _ _ ⟨dt12, rfl, hI13, hF14, h11⟩
  refine ⟨rfl, ?_⟩
  have hF15 : Fr [86, 87, 88, 89, 90, 91, 92, 93, 94, 95, 96, 97, 98, 99, 100] dt dt12 := Fr_tr hF10 hF14 (by decide)
  rcases h11 with ⟨v_h11, rfl, h11r, h11⟩
  refine go_toq PM215 (k := 5) (pc' := 30) (L' := [some (.inr (.inr (some 79))), some (.inl p1), some (.inl p2), some (.inl p3), some (.inl p4), some (.inl p5), some (.inl v_h6), some (.inl v_h11), some (.inl 0), some (.inl 0)]) (st' := []) (w' := (SH, dt12)) rfl ?_
  have loop108 : ∀ (k_ : Nat) (l30_8 : Int) (l30_9 : Int) (dt104 : Nat → Nat → Int) (hI105 : InvC dt104) (hF106 : Fr [86, 87, 88, 89, 90, 91, 92, 93, 94, 95, 96, 97, 98, 99, 100] dt dt104) (i107 : 0 ≤ l30_9 ∧ l30_9 ≤ 8), (9 - l30_9).toNat < k_ → GO (am_XX L xs sio) (d + 6) 215 30 [some (.inr (.inr (some 79))), some (.inl p1), none, some (.inl p3), none, some (.inl p5), some (.inl v_h6), some (.inl v_h11), some (.inl l30_8), some (.inl l30_9)] [] (SH, dt104) (fun r w2 => ∃ dt2 : Nat → Nat → Int, w2 = (SH, dt2) ∧ InvC dt2 ∧ Fr [86, 87, 88, 89, 90, 91, 92, 93, 94, 95, 96, 97, 98, 99, 100] dt dt2 ∧ ((∃ v : Int, r = some (.inl v) ∧ True ∧ True))) := by
    intro k_
    induction k_ with
    | zero => intro l30_8 l30_9 dt104 hI105 hF106 i107 hm; exact absurd hm (Nat.not_lt_zero _)
    | succ k_ ih_loop108 =>
      intro l30_8 l30_9 dt104 hI105 hF106 i107 hm
      refine go_ifq PM215 (k := 2) (p1 := 76) (p2 := 37) (L' := [some (.inr (.inr (some 79))), some (.inl p1), none, some (.inl p3), none, some (.inl p5), some (.inl v_h6), some (.inl v_h11), some (.inl l30_8), some (.inl l30_9)]) (st' := []) (w' := (SH, dt104)) rfl (c_ge (a := l30_9) (b := 8) (by first | exact bnd i107 (by decide) (by decide) | exact ⟨by fail, by fail⟩) ⟨by decide, by decide⟩) (fun c119 => ?_) (fun c119 => ?_)
      · skip
        refine go_ifq PM215 (k := 1) (p1 := 97) (p2 := 81) (L' := [some (.inr (.inr (some 79))), some (.inl p1), none, some (.inl p3), none, some (.inl p5), some (.inl v_h6), some (.inl v_h11), some (.inl l30_8), some (.inl l30_9)]) (st' := []) (w' := (SH, dt104)) rfl (z_ne (a := v_h6) (by first | exact bnd h6r (by decide) (by decide) | exact ⟨by fail, by fail⟩)) (fun c122 => ?_) (fun c122 => ?_)
        · skip
          replace c122 := hid c122
          refine go_toq PM215 (k := 8) (pc' := 108) (L' := [some (.inr (.inr (some 79))), some (.inl p1), none, some (.inl p3), none, some (.inl p5), some (.inl v_h6), some (.inl v_h11), some (.inl l30_8), some (.inl l30_9)]) (st' := [.inl 0, .inl p3, .inr (.inr (some 79)), .inl ((100 - v_h11) * l30_8)]) (w' := (SH, dt104)) rfl ?_
          refine go_callq PM215 PM194 (Q' := _) rfl rfl rfl rfl (sp_X6_saysNow L xs sio (d + 4) dt104 hI105 (MW_fr hM hF106 (by decide))  p3 (by first | exact h_p3 | exact bnd h_p3 (by decide) (by decide) | exact ⟨by fail, by fail⟩) 0 ⟨by decide, by decide⟩ ) ?_
          rintro _ _ ⟨rfl, h123⟩
          refine ⟨rfl, ?_⟩
          rcases h123 with ⟨v_h123, rfl, h123r, h123⟩
          refine go_ifq PM215 (k := 1) (p1 := 124) (p2 := 116) (L' := [some (.inr (.inr (some 79))), some (.inl p1), none, some (.inl p3), none, some (.inl p5), some (.inl v_h6), some (.inl v_h11), some (.inl l30_8), some (.inl l30_9)]) (st' := [.inl ((100 - v_h11) * l30_8)]) (w' := (SH, dt104)) rfl (c_ne (a := v_h123) (b := p5) (by first | exact bnd h123r (by decide) (by decide) | exact ⟨by fail, by fail⟩) (by first | exact bnd h_p5 (by decide) (by decide) | exact ⟨by fail, by fail⟩)) (fun c125 => ?_) (fun c125 => ?_)
          · skip
            replace c125 := hid c125
            refine go_toq PM215 (k := 5) (pc' := 131) (L' := [some (.inr (.inr (some 79))), some (.inl p1), none, some (.inl p3), none, some (.inl p5), some (.inl v_h6), some (.inl v_h11), some (.inl l30_8), some (.inl l30_9)]) (st' := [.inl v_h6, .inl ((((100 - v_h11) * l30_8) + 0) * 10)]) (w' := (SH, dt104)) rfl ?_
            refine go_smpq PM215 (L' := [some (.inr (.inr (some 79))), some (.inl p1), none, some (.inl p3), none, some (.inl p5), some (.inl v_h6), some (.inl v_h11), some (.inl l30_8), some (.inl l30_9)]) (st' := [.inl ((wr ((((100 - v_h11) * l30_8) + 0) * 10)).tdiv (wr v_h6))]) (w' := (SH, dt104)) rfl rfl (s_idiv (by rw [wr_R ⟨by omega, by omega⟩]; (have z0_ := unhid c122; have z1_ := unhid c125; omega))) ?_
            refine go_retq PM215 (k := 0) (r := some (.inl ((wr ((((100 - v_h11) * l30_8) + 0) * 10)).tdiv (wr v_h6)))) (w1 := (SH, dt104)) rfl ?_
            exact ⟨dt104, rfl, hI105, hF106, ⟨_, rfl, trivial, trivial⟩⟩
          · skip
            refine go_toq PM215 (k := 8) (pc' := 131) (L' := [some (.inr (.inr (some 79))), some (.inl p1), none, some (.inl p3), none, some (.inl p5), some (.inl v_h6), some (.inl v_h11), some (.inl l30_8), some (.inl l30_9)]) (st' := [.inl v_h6, .inl ((((100 - v_h11) * l30_8) + (v_h11 * v_h6)) * 10)]) (w' := (SH, dt104)) rfl ?_
            refine go_smpq PM215 (L' := [some (.inr (.inr (some 79))), some (.inl p1), none, some (.inl p3), none, some (.inl p5), some (.inl v_h6), some (.inl v_h11), some (.inl l30_8), some (.inl l30_9)]) (st' := [.inl ((wr ((((100 - v_h11) * l30_8) + (v_h11 * v_h6)) * 10)).tdiv (wr v_h6))]) (w' := (SH, dt104)) rfl rfl (s_idiv (by rw [wr_R ⟨by omega, by omega⟩]; (have z0_ := unhid c122; omega))) ?_
            refine go_retq PM215 (k := 0) (r := some (.inl ((wr ((((100 - v_h11) * l30_8) + (v_h11 * v_h6)) * 10)).tdiv (wr v_h6)))) (w1 := (SH, dt104)) rfl ?_
            exact ⟨dt104, rfl, hI105, hF106, ⟨_, rfl, trivial, trivial⟩⟩
        · skip
          refine go_ifq PM215 (k := 4) (p1 := 94) (p2 := 90) (L' := [some (.inr (.inr (some 79))), some (.inl p1), none, some (.inl p3), none, some (.inl p5), some (.inl 4), some (.inl v_h11), some (.inl l30_8), some (.inl l30_9)]) (st' := []) (w' := (SH, dt104)) rfl (c_ne (a := p5) (b := (-1)) (by first | exact bnd h_p5 (by decide) (by decide) | exact ⟨by fail, by fail⟩) ⟨by decide, by decide⟩) (fun c127 => ?_) (fun c127 => ?_)
          · skip
            replace c127 := hid c127
            refine go_toq PM215 (k := 10) (pc' := 108) (L' := [some (.inr (.inr (some 79))), some (.inl p1), none, some (.inl p3), none, some (.inl p5), some (.inl 4), some (.inl v_h11), some (.inl 1), some (.inl l30_9)]) (st' := [.inl 0, .inl p3, .inr (.inr (some 79)), .inl ((100 - v_h11) * 1)]) (w' := (SH, dt104)) rfl ?_
            refine go_callq PM215 PM194 (Q' := _) rfl rfl rfl rfl (sp_X6_saysNow L xs sio (d + 4) dt104 hI105 (MW_fr hM hF106 (by decide))  p3 (by first | exact h_p3 | exact bnd h_p3 (by decide) (by decide) | exact ⟨by fail, by fail⟩) 0 ⟨by decide, by decide⟩ ) ?_
            rintro _ _ ⟨rfl, h128⟩
            refine ⟨rfl, ?_⟩
            rcases h128 with ⟨v_h128, rfl, h128r, h128⟩
            refine go_ifq PM215 (k := 1) (p1 := 124) (p2 := 116) (L' := [some (.inr (.inr (some 79))), some (.inl p1), none, some (.inl p3), none, some (.inl p5), some (.inl 4), some (.inl v_h11), some (.inl 1), some (.inl l30_9)]) (st' := [.inl ((100 - v_h11) * 1)]) (w' := (SH, dt104)) rfl (c_ne (a := v_h128) (b := p5) (by first | exact bnd h128r (by decide) (by decide) | exact ⟨by fail, by fail⟩) (by first | exact bnd h_p5 (by decide) (by decide) | exact ⟨by fail, by fail⟩)) (fun c130 => ?_) (fun c130 => ?_)
            · skip
              replace c130 := hid c130
              refine go_toq PM215 (k := 5) (pc' := 131) (L' := [some (.inr (.inr (some 79))), some (.inl p1), none, some (.inl p3), none, some (.inl p5), some (.inl 4), some (.inl v_h11), some (.inl 1), some (.inl l30_9)]) (st' := [.inl 4, .inl ((((100 - v_h11) * 1) + 0) * 10)]) (w' := (SH, dt104)) rfl ?_
              refine go_smpq PM215 (L' := [some (.inr (.inr (some 79))), some (.inl p1), none, some (.inl p3), none, some (.inl p5), some (.inl 4), some (.inl v_h11), some (.inl 1), some (.inl l30_9)]) (st' := [.inl (((((100 - v_h11) * 1) + 0) * 10) / 4)]) (w' := (SH, dt104)) rfl rfl (s_idivc ⟨by omega, by omega⟩ ⟨by omega, by omega⟩) ?_
              refine go_retq PM215 (k := 0) (r := some (.inl (((((100 - v_h11) * 1) + 0) * 10) / 4))) (w1 := (SH, dt104)) rfl ?_
              exact ⟨dt104, rfl, hI105, hF106, ⟨_, rfl, trivial, trivial⟩⟩
            · skip
              refine go_toq PM215 (k := 8) (pc' := 131) (L' := [some (.inr (.inr (some 79))), some (.inl p1), none, some (.inl p3), none, some (.inl p5), some (.inl 4), some (.inl v_h11), some (.inl 1), some (.inl l30_9)]) (st' := [.inl 4, .inl ((((100 - v_h11) * 1) + (v_h11 * 4)) * 10)]) (w' := (SH, dt104)) rfl ?_
              refine go_smpq PM215 (L' := [some (.inr (.inr (some 79))), some (.inl p1), none, some (.inl p3), none, some (.inl p5), some (.inl 4), some (.inl v_h11), some (.inl 1), some (.inl l30_9)]) (st' := [.inl (((((100 - v_h11) * 1) + (v_h11 * 4)) * 10) / 4)]) (w' := (SH, dt104)) rfl rfl (s_idivc ⟨by omega, by omega⟩ ⟨by omega, by omega⟩) ?_
              refine go_retq PM215 (k := 0) (r := some (.inl (((((100 - v_h11) * 1) + (v_h11 * 4)) * 10) / 4))) (w1 := (SH, dt104)) rfl ?_
              exact ⟨dt104, rfl, hI105, hF106, ⟨_, rfl, trivial, trivial⟩⟩
          · skip
            refine go_toq PM215 (k := 11) (pc' := 108) (L' := [some (.inr (.inr (some 79))), some (.inl p1), none, some (.inl p3), none, some (.inl p5), some (.inl 4), some (.inl v_h11), some (.inl 0), some (.inl l30_9)]) (st' := [.inl 0, .inl p3, .inr (.inr (some 79)), .inl ((100 - v_h11) * 0)]) (w' := (SH, dt104)) rfl ?_
            refine go_callq PM215 PM194 (Q' := _) rfl rfl rfl rfl (sp_X6_saysNow L xs sio (d + 4) dt104 hI105 (MW_fr hM hF106 (by decide))  p3 (by first | exact h_p3 | exact bnd h_p3 (by decide) (by decide) | exact ⟨by fail, by fail⟩) 0 ⟨by decide, by decide⟩ ) ?_
            rintro _ _ ⟨rfl, h131⟩
            refine ⟨rfl, ?_⟩
            rcases h131 with ⟨v_h131, rfl, h131r, h131⟩
            refine go_ifq PM215 (k := 1) (p1 := 124) (p2 := 116) (L' := [some (.inr (.inr (some 79))), some (.inl p1), none, some (.inl p3), none, some (.inl p5), some (.inl 4), some (.inl v_h11), some (.inl 0), some (.inl l30_9)]) (st' := [.inl ((100 - v_h11) * 0)]) (w' := (SH, dt104)) rfl (c_ne (a := v_h131) (b := p5) (by first | exact bnd h131r (by decide) (by decide) | exact ⟨by fail, by fail⟩) (by first | exact bnd h_p5 (by decide) (by decide) | exact ⟨by fail, by fail⟩)) (fun c133 => ?_) (fun c133 => ?_)
            · skip
              replace c133 := hid c133
              refine go_toq PM215 (k := 5) (pc' := 131) (L' := [some (.inr (.inr (some 79))), some (.inl p1), none, some (.inl p3), none, some (.inl p5), some (.inl 4), some (.inl v_h11), some (.inl 0), some (.inl l30_9)]) (st' := [.inl 4, .inl ((((100 - v_h11) * 0) + 0) * 10)]) (w' := (SH, dt104)) rfl ?_
              refine go_smpq PM215 (L' := [some (.inr (.inr (some 79))), some (.inl p1), none, some (.inl p3), none, some (.inl p5), some (.inl 4), some (.inl v_h11), some (.inl 0), some (.inl l30_9)]) (st' := [.inl (((((100 - v_h11) * 0) + 0) * 10) / 4)]) (w' := (SH, dt104)) rfl rfl (s_idivc ⟨by omega, by omega⟩ ⟨by omega, by omega⟩) ?_
              refine go_retq PM215 (k := 0) (r := some (.inl (((((100 - v_h11) * 0) + 0) * 10) / 4))) (w1 := (SH, dt104)) rfl ?_
              exact ⟨dt104, rfl, hI105, hF106, ⟨_, rfl, trivial, trivial⟩⟩
            · skip
              refine go_toq PM215 (k := 8) (pc' := 131) (L' := [some (.inr (.inr (some 79))), some (.inl p1), none, some (.inl p3), none, some (.inl p5), some (.inl 4), some (.inl v_h11), some (.inl 0), some (.inl l30_9)]) (st' := [.inl 4, .inl ((((100 - v_h11) * 0) + (v_h11 * 4)) * 10)]) (w' := (SH, dt104)) rfl ?_
              refine go_smpq PM215 (L' := [some (.inr (.inr (some 79))), some (.inl p1), none, some (.inl p3), none, some (.inl p5), some (.inl 4), some (.inl v_h11), some (.inl 0), some (.inl l30_9)]) (st' := [.inl (((((100 - v_h11) * 0) + (v_h11 * 4)) * 10) / 4)]) (w' := (SH, dt104)) rfl rfl (s_idivc ⟨by omega, by omega⟩ ⟨by omega, by omega⟩) ?_
              refine go_retq PM215 (k := 0) (r := some (.inl (((((100 - v_h11) * 0) + (v_h11 * 4)) * 10) / 4))) (w1 := (SH, dt104)) rfl ?_
              exact ⟨dt104, rfl, hI105, hF106, ⟨_, rfl, trivial, trivial⟩⟩
      · skip
        have j142 : ∀ (j142_s1 : Int) (i143 : l30_8 + 0 ≤ j142_s1 ∧ j142_s1 ≤ l30_8 + 0), GO (am_XX L xs sio) (d + 6) 215 67 [some (.inr (.inr (some 79))), some (.inl p1), none, some (.inl p3), none, some (.inl p5), some (.inl v_h6), some (.inl v_h11), none, some (.inl l30_9)] [.inl 0, .inl j142_s1] (SH, dt104) (fun r w2 => ∃ dt2 : Nat → Nat → Int, w2 = (SH, dt2) ∧ InvC dt2 ∧ Fr [86, 87, 88, 89, 90, 91, 92, 93, 94, 95, 96, 97, 98, 99, 100] dt dt2 ∧ ((∃ v : Int, r = some (.inl v) ∧ True ∧ True))) := by
          intro j142_s1 i143
          refine go_toq PM215 (k := 4) (pc' := 30) (L' := [some (.inr (.inr (some 79))), some (.inl p1), none, some (.inl p3), none, some (.inl p5), some (.inl v_h6), some (.inl v_h11), some (.inl (j142_s1 + 0)), some (.inl (l30_9 + 1))]) (st' := []) (w' := (SH, dt104)) rfl ?_
          exact GO.le (ih_loop108 (j142_s1 + 0) (l30_9 + 1) dt104 hI105 hF106 (by first | exact bndp i107 (by decide) (by decide) | exact bnde i107 c119 (by decide) (by decide) | fail) (by omega)) ⟨.inl rfl, .inl rfl, .inl rfl, .inl rfl, .inl rfl, .inl rfl, .inl rfl, .inl rfl, .inl rfl, .inl rfl, trivial⟩
        refine go_ifq PM215 (k := 2) (p1 := 66) (p2 := 44) (L' := [some (.inr (.inr (some 79))), some (.inl p1), none, some (.inl p3), none, some (.inl p5), some (.inl v_h6), some (.inl v_h11), some (.inl l30_8), some (.inl l30_9)]) (st' := [.inl l30_8]) (w' := (SH, dt104)) rfl (z_le (a := v_h6) (by first | exact bnd h6r (by decide) (by decide) | exact ⟨by fail, by fail⟩)) (fun c144 => ?_) (fun c144 => ?_)
        · skip
          refine go_toq PM215 (k := 1) (pc' := 67) (L' := [some (.inr (.inr (some 79))), some (.inl p1), none, some (.inl p3), none, some (.inl p5), some (.inl v_h6), some (.inl v_h11), some (.inl l30_8), some (.inl l30_9)]) (st' := [.inl 0, .inl l30_8]) (w' := (SH, dt104)) rfl ?_
          exact GO.le (j142 l30_8 (by omega)) ⟨.inl rfl, .inl rfl, .inl rfl, .inl rfl, .inl rfl, .inl rfl, .inl rfl, .inl rfl, .inr ⟨rfl, trivial⟩, .inl rfl, trivial⟩
        · skip
          refine go_toq PM215 (k := 3) (pc' := 48) (L' := [some (.inr (.inr (some 79))), some (.inl p1), none, some (.inl p3), none, some (.inl p5), some (.inl v_h6), some (.inl v_h11), some (.inl l30_8), some (.inl l30_9)]) (st' := [.inl l30_9, .inl p3, .inr (.inr (some 79)), .inl l30_8]) (w' := (SH, dt104)) rfl ?_
          refine go_callq PM215 PM194 (Q' := _) rfl rfl rfl rfl (sp_X6_saysNow L xs sio (d + 4) dt104 hI105 (MW_fr hM hF106 (by decide))  p3 (by first | exact h_p3 | exact bnd h_p3 (by decide) (by decide) | exact ⟨by fail, by fail⟩) l30_9 (by first | exact bnd i107 (by decide) (by decide) | exact bndd i107 c119 (by decide) (by decide) | exact ⟨by fail, by fail⟩) ) ?_
          rintro _ _ ⟨rfl, h145⟩
          refine ⟨rfl, ?_⟩
          rcases h145 with ⟨v_h145, rfl, h145r, h145⟩
          refine go_ifq PM215 (k := 1) (p1 := 66) (p2 := 56) (L' := [some (.inr (.inr (some 79))), some (.inl p1), none, some (.inl p3), none, some (.inl p5), some (.inl v_h6), some (.inl v_h11), some (.inl l30_8), some (.inl l30_9)]) (st' := [.inl l30_8]) (w' := (SH, dt104)) rfl (c_ne (a := v_h145) (b := p5) (by first | exact bnd h145r (by decide) (by decide) | exact ⟨by fail, by fail⟩) (by first | exact bnd h_p5 (by decide) (by decide) | exact ⟨by fail, by fail⟩)) (fun c146 => ?_) (fun c146 => ?_)
          · skip
            replace c146 := hid c146
            refine go_toq PM215 (k := 1) (pc' := 67) (L' := [some (.inr (.inr (some 79))), some (.inl p1), none, some (.inl p3), none, some (.inl p5), some (.inl v_h6), some (.inl v_h11), some (.inl l30_8), some (.inl l30_9)]) (st' := [.inl 0, .inl l30_8]) (w' := (SH, dt104)) rfl ?_
            exact GO.le (j142 l30_8 (by omega)) ⟨.inl rfl, .inl rfl, .inl rfl, .inl rfl, .inl rfl, .inl rfl, .inl rfl, .inl rfl, .inr ⟨rfl, trivial⟩, .inl rfl, trivial⟩
          · skip
            refine go_toq PM215 (k := 3) (pc' := 60) (L' := [some (.inr (.inr (some 79))), some (.inl p1), none, some (.inl p3), none, some (.inl p5), some (.inl v_h6), some (.inl v_h11), some (.inl l30_8), some (.inl l30_9)]) (st' := [.inl l30_9, .inl p1, .inr (.inr (some 79)), .inl l30_8]) (w' := (SH, dt104)) rfl ?_
            refine go_callq PM215 PM206 (Q' := _) rfl rfl rfl rfl (sp_X6_weighs L xs sio (d + 3) dt104 hI105 (MW_fr hM hF106 (by decide))  p1 (by first | exact h_p1 | exact bnd h_p1 (by decide) (by decide) | exact ⟨by fail, by fail⟩) l30_9 (by first | exact bnd i107 (by decide) (by decide) | exact bndd i107 c119 (by decide) (by decide) | exact ⟨by fail, by fail⟩) ) ?_
            rintro _ _ ⟨dt148, rfl, hI149, hF150, h147⟩
            refine ⟨rfl, ?_⟩
            have hF151 : Fr [86, 87, 88, 89, 90, 91, 92, 93, 94, 95, 96, 97, 98, 99, 100] dt dt148 := Fr_tr hF106 hF150 (by decide)
            rcases h147 with ⟨v_h147, rfl, h147r, h147⟩
            refine go_toq PM215 (k := 5) (pc' := 30) (L' := [some (.inr (.inr (some 79))), some (.inl p1), none, some (.inl p3), none, some (.inl p5), some (.inl v_h6), some (.inl v_h11), some (.inl (l30_8 + v_h147)), some (.inl (l30_9 + 1))]) (st' := []) (w' := (SH, dt148)) rfl ?_
            exact GO.le (ih_loop108 (l30_8 + v_h147) (l30_9 + 1) dt148 hI149 hF151 (by first | exact bndp i107 (by decide) (by decide) | exact bnde i107 c119 (by decide) (by decide) | fail) (by omega)) ⟨.inl rfl, .inl rfl, .inl rfl, .inl rfl, .inl rfl, .inl rfl, .inl rfl, .inl rfl, .inl rfl, .inl rfl, trivial⟩
  exact GO.le (loop108 _ 0 0 dt12 hI13 hF15 ⟨by decide, by decide⟩ (Nat.lt_succ_self _)) ⟨.inl rfl, .inl rfl, .inr ⟨rfl, trivial⟩, .inl rfl, .inr ⟨rfl, trivial⟩, .inl rfl, .inl rfl, .inl rfl, .inl rfl, .inl rfl, trivial⟩
set_option maxRecDepth 20000 in
theorem sp_X6_chance (L : Nat) (xs : Nat → Int32) (sio : Option Nat) (d : Nat) (dt : Nat → Nat → Int) (hI : InvC dt) (hM : MW (dt 80))  (p1 : Int) (h_p1 : (-2147483648) ≤ p1 ∧ p1 ≤ 2147483647) (p2 : Int) (h_p2 : (-2147483648) ≤ p2 ∧ p2 ≤ 2147483647) (p3 : Int) (h_p3 : (-2147483648) ≤ p3 ∧ p3 ≤ 2147483647) (p4 : Int) (h_p4 : (-2147483648) ≤ p4 ∧ p4 ≤ 2147483647) (p5 : Int) (h_p5 : (-2147483648) ≤ p5 ∧ p5 ≤ 2147483647)  : GO (am_XX L xs sio) (d + 7) 216 0 [some (.inr (.inr (some 79))), some (.inl p1), some (.inl p2), some (.inl p3), some (.inl p4), some (.inl p5)] [] (SH, dt) (fun r w2 => ∃ dt2 : Nat → Nat → Int, w2 = (SH, dt2) ∧ InvC dt2 ∧ Fr [86, 87, 88, 89, 90, 91, 92, 93, 94, 95, 96, 97, 98, 99, 100] dt dt2 ∧ ((∃ v : Int, r = some (.inl v) ∧ True ∧ True))) := by
  have hF : Fr [86, 87, 88, 89, 90, 91, 92, 93, 94, 95, 96, 97, 98, 99, 100] dt dt := Fr_refl
  refine go_toq PM216 (k := 1) (pc' := 1) (L' := [some (.inr (.inr (some 79))), some (.inl p1), some (.inl p2), some (.inl p3), some (.inl p4), some (.inl p5)]) (st' := [.inl p1]) (w' := (SH, dt)) rfl ?_
  refine go_callq PM216 PM200 (Q' := _) rfl rfl rfl rfl (sp_X6_isLaw L xs sio (d + 5) dt hI  p1 (by first | exact h_p1 | exact bnd h_p1 (by decide) (by decide) | exact ⟨by omega, by omega⟩) ) ?_
  rintro _ _ ⟨rfl, h1⟩
  refine ⟨rfl, ?_⟩
  rcases h1 with ⟨rfl, h1⟩ | ⟨rfl, h1⟩
  · skip
    have j11 :  GO (am_XX L xs sio) (d + 7) 216 54 [some (.inr (.inr (some 79))), none, none, none, none, none] [.inl (-1)] (SH, dt) (fun r w2 => ∃ dt2 : Nat → Nat → Int, w2 = (SH, dt2) ∧ InvC dt2 ∧ Fr [86, 87, 88, 89, 90, 91, 92, 93, 94, 95, 96, 97, 98, 99, 100] dt dt2 ∧ ((∃ v : Int, r = some (.inl v) ∧ True ∧ True))) := by
      skip
      refine go_retq PM216 (k := 0) (r := some (.inl (-1))) (w1 := (SH, dt)) rfl ?_
      exact ⟨dt, rfl, hI, hF, ⟨_, rfl, trivial, trivial⟩⟩
    refine go_toq PM216 (k := 3) (pc' := 9) (L' := [some (.inr (.inr (some 79))), some (.inl p1), some (.inl p2), some (.inl p3), some (.inl p4), some (.inl p5)]) (st' := [.inl p2, .inr (.inr (some 79))]) (w' := (SH, dt)) rfl ?_
    refine go_callq PM216 PM199 (Q' := _) rfl rfl rfl rfl (sp_X6_isChild L xs sio (d + 5) dt hI hM  p2 (by first | exact h_p2 | exact bnd h_p2 (by decide) (by decide) | exact ⟨by omega, by omega⟩) ) ?_
    rintro _ _ ⟨rfl, h12⟩
    refine ⟨rfl, ?_⟩
    rcases h12 with ⟨rfl, h12⟩ | ⟨rfl, h12⟩
    · skip
      refine go_toq PM216 (k := 3) (pc' := 17) (L' := [some (.inr (.inr (some 79))), some (.inl p1), some (.inl p2), some (.inl p3), some (.inl p4), some (.inl p5)]) (st' := [.inl p3, .inr (.inr (some 79))]) (w' := (SH, dt)) rfl ?_
      refine go_callq PM216 PM192 (Q' := _) rfl rfl rfl rfl (sp_X6_isQuestion L xs sio (d + 5) dt hI hM  p3 (by first | exact h_p3 | exact bnd h_p3 (by decide) (by decide) | exact ⟨by omega, by omega⟩) ) ?_
      rintro _ _ ⟨rfl, h13⟩
      refine ⟨rfl, ?_⟩
      rcases h13 with ⟨rfl, h13⟩ | ⟨rfl, h13⟩
      · skip
        refine go_toq PM216 (k := 2) (pc' := 25) (L' := [some (.inr (.inr (some 79))), some (.inl p1), some (.inl p2), some (.inl p3), some (.inl p4), some (.inl p5)]) (st' := [.inl p4]) (w' := (SH, dt)) rfl ?_
        refine go_callq PM216 PM201 (Q' := _) rfl rfl rfl rfl (sp_X6_isHow L xs sio (d + 5) dt hI  p4 (by first | exact h_p4 | exact bnd h_p4 (by decide) (by decide) | exact ⟨by omega, by omega⟩) ) ?_
        rintro _ _ ⟨rfl, h14⟩
        refine ⟨rfl, ?_⟩
        rcases h14 with ⟨rfl, h14⟩ | ⟨rfl, h14⟩
        · skip
          refine go_toq PM216 (k := 2) (pc' := 33) (L' := [some (.inr (.inr (some 79))), some (.inl p1), some (.inl p2), some (.inl p3), some (.inl p4), some (.inl p5)]) (st' := [.inl p5]) (w' := (SH, dt)) rfl ?_
          refine go_callq PM216 PM212 (Q' := _) rfl rfl rfl rfl (sp_X6_isAnswer L xs sio (d + 5) dt hI  p5 (by first | exact h_p5 | exact bnd h_p5 (by decide) (by decide) | exact ⟨by omega, by omega⟩) ) ?_
          rintro _ _ ⟨rfl, h15⟩
          refine ⟨rfl, ?_⟩
          rcases h15 with ⟨rfl, h15⟩ | ⟨rfl, h15⟩
          · skip
            refine go_toq PM216 (k := 7) (pc' := 47) (L' := [some (.inr (.inr (some 79))), some (.inl p1), some (.inl p2), some (.inl p3), some (.inl p4), some (.inl p5)]) (st' := [.inl p5, .inl p4, .inl p3, .inl p2, .inl p1, .inr (.inr (some 79))]) (w' := (SH, dt)) rfl ?_
            refine go_callq PM216 PM215 (Q' := _) rfl rfl rfl rfl (sp_X6_chanceOf L xs sio (d + 0) dt hI hM  p1 (by first | exact h_p1 | exact bnd h_p1 (by decide) (by decide) | exact ⟨by omega, by omega⟩) p2 (by first | exact h_p2 | exact bnd h_p2 (by decide) (by decide) | exact ⟨by omega, by omega⟩) p3 (by first | exact h_p3 | exact bnd h_p3 (by decide) (by decide) | exact ⟨by omega, by omega⟩) p4 (by first | exact h_p4 | exact bnd h_p4 (by decide) (by decide) | exact ⟨by omega, by omega⟩) p5 (by first | exact h_p5 | exact bnd h_p5 (by decide) (by decide) | exact ⟨by omega, by omega⟩) ) ?_
            rintro _ _ ⟨dt17, rfl, hI18, hF19, h16⟩
            refine ⟨rfl, ?_⟩
            have hF20 : Fr [86, 87, 88, 89, 90, 91, 92, 93, 94, 95, 96, 97, 98, 99, 100] dt dt17 := Fr_tr hF hF19 (by decide)
            rcases h16 with ⟨v_h16, rfl, h16r, h16⟩
            refine go_retq PM216 (k := 1) (r := some (.inl v_h16)) (w1 := (SH, dt17)) rfl ?_
            exact ⟨dt17, rfl, hI18, hF20, ⟨_, rfl, trivial, trivial⟩⟩
          · skip
            refine go_toq PM216 (k := 2) (pc' := 54) (L' := [some (.inr (.inr (some 79))), some (.inl p1), some (.inl p2), some (.inl p3), some (.inl p4), some (.inl p5)]) (st' := [.inl (-1)]) (w' := (SH, dt)) rfl ?_
            exact GO.le (j11 ) ⟨.inl rfl, .inr ⟨rfl, trivial⟩, .inr ⟨rfl, trivial⟩, .inr ⟨rfl, trivial⟩, .inr ⟨rfl, trivial⟩, .inr ⟨rfl, trivial⟩, trivial⟩
        · skip
          refine go_toq PM216 (k := 2) (pc' := 54) (L' := [some (.inr (.inr (some 79))), some (.inl p1), some (.inl p2), some (.inl p3), some (.inl p4), some (.inl p5)]) (st' := [.inl (-1)]) (w' := (SH, dt)) rfl ?_
          exact GO.le (j11 ) ⟨.inl rfl, .inr ⟨rfl, trivial⟩, .inr ⟨rfl, trivial⟩, .inr ⟨rfl, trivial⟩, .inr ⟨rfl, trivial⟩, .inr ⟨rfl, trivial⟩, trivial⟩
      · skip
        refine go_toq PM216 (k := 2) (pc' := 54) (L' := [some (.inr (.inr (some 79))), some (.inl p1), some (.inl p2), some (.inl p3), some (.inl p4), some (.inl p5)]) (st' := [.inl (-1)]) (w' := (SH, dt)) rfl ?_
        exact GO.le (j11 ) ⟨.inl rfl, .inr ⟨rfl, trivial⟩, .inr ⟨rfl, trivial⟩, .inr ⟨rfl, trivial⟩, .inr ⟨rfl, trivial⟩, .inr ⟨rfl, trivial⟩, trivial⟩
    · skip
      refine go_toq PM216 (k := 2) (pc' := 54) (L' := [some (.inr (.inr (some 79))), some (.inl p1), some (.inl p2), some (.inl p3), some (.inl p4), some (.inl p5)]) (st' := [.inl (-1)]) (w' := (SH, dt)) rfl ?_
      exact GO.le (j11 ) ⟨.inl rfl, .inr ⟨rfl, trivial⟩, .inr ⟨rfl, trivial⟩, .inr ⟨rfl, trivial⟩, .inr ⟨rfl, trivial⟩, .inr ⟨rfl, trivial⟩, trivial⟩
  · skip
    refine go_retq PM216 (k := 2) (r := some (.inl (-1))) (w1 := (SH, dt)) rfl ?_
    exact ⟨dt, rfl, hI, hF, ⟨_, rfl, trivial, trivial⟩⟩
set_option maxRecDepth 20000 in
theorem sp_X6_scoreOf (L : Nat) (xs : Nat → Int32) (sio : Option Nat) (d : Nat) (dt : Nat → Nat → Int) (hI : InvC dt) (hM : MW (dt 80))  (p1 : Int) (h_p1 : 0 ≤ p1 ∧ p1 ≤ 3)  : GO (am_XX L xs sio) (d + 7) 244 0 [some (.inr (.inr (some 79))), some (.inl p1), none, none] [] (SH, dt) (fun r w2 => ∃ dt2 : Nat → Nat → Int, w2 = (SH, dt2) ∧ InvC dt2 ∧ Fr [86, 87, 88, 89, 90, 91, 92, 93, 94, 95, 96, 97, 98, 99, 100] dt dt2 ∧ ((∃ v : Int, r = some (.inl v) ∧ True ∧ True))) := by
  have hF : Fr [86, 87, 88, 89, 90, 91, 92, 93, 94, 95, 96, 97, 98, 99, 100] dt dt := Fr_refl
  refine go_toq PM244 (k := 4) (pc' := 4) (L' := [some (.inr (.inr (some 79))), some (.inl p1), some (.inl 0), some (.inl 0)]) (st' := []) (w' := (SH, dt)) rfl ?_
  have loop117 : ∀ (k_ : Nat) (l4_2 : Int) (l4_3 : Int) (dt113 : Nat → Nat → Int) (hI114 : InvC dt113) (hF115 : Fr [86, 87, 88, 89, 90, 91, 92, 93, 94, 95, 96, 97, 98, 99, 100] dt dt113) (i116 : 0 ≤ l4_3 ∧ l4_3 ≤ 300), (301 - l4_3).toNat < k_ → GO (am_XX L xs sio) (d + 7) 244 4 [some (.inr (.inr (some 79))), some (.inl p1), some (.inl l4_2), some (.inl l4_3)] [] (SH, dt113) (fun r w2 => ∃ dt2 : Nat → Nat → Int, w2 = (SH, dt2) ∧ InvC dt2 ∧ Fr [86, 87, 88, 89, 90, 91, 92, 93, 94, 95, 96, 97, 98, 99, 100] dt dt2 ∧ ((∃ v : Int, r = some (.inl v) ∧ True ∧ True))) := by
    intro k_
    induction k_ with
    | zero => intro l4_2 l4_3 dt113 hI114 hF115 i116 hm; exact absurd hm (Nat.not_lt_zero _)
    | succ k_ ih_loop117 =>
      intro l4_2 l4_3 dt113 hI114 hF115 i116 hm
      refine go_toq PM244 (k := 4) (pc' := 10) (L' := [some (.inr (.inr (some 79))), some (.inl p1), some (.inl l4_2), some (.inl l4_3)]) (st' := [.inl 3, .inr (.inr (some 80)), .inl l4_3]) (w' := (SH, dt113)) rfl ?_
      have r118 : (-2147483648) ≤ dt 80 3 ∧ dt 80 3 ≤ 2147483647 := InvC_get hI 80 3 rfl rfl
      have r119 := MW_n hM
      refine go_smpq PM244 (L' := [some (.inr (.inr (some 79))), some (.inl p1), some (.inl l4_2), some (.inl l4_3)]) (st' := [.inl (dt 80 3), .inl l4_3]) (w' := (SH, dt113)) rfl rfl (s_ev (s_iald (n := 7460) (f := dt113 80) rfl ⟨by decide, by decide⟩) (hF115 80 (by decide) _)) ?_
      refine go_ifq PM244 (k := 0) (p1 := 55) (p2 := 14) (L' := [some (.inr (.inr (some 79))), some (.inl p1), some (.inl l4_2), some (.inl l4_3)]) (st' := []) (w' := (SH, dt113)) rfl (c_ge (a := l4_3) (b := dt 80 3) (by first | exact bnd i116 (by decide) (by decide) | exact ⟨by fail, by fail⟩) (by first | exact bnd r118 (by decide) (by decide) | exact ⟨by fail, by fail⟩)) (fun c131 => ?_) (fun c131 => ?_)
      · skip
        refine go_retq PM244 (k := 1) (r := some (.inl l4_2)) (w1 := (SH, dt113)) rfl ?_
        exact ⟨dt113, rfl, hI114, hF115, ⟨_, rfl, trivial, trivial⟩⟩
      · skip
        refine go_toq PM244 (k := 6) (pc' := 20) (L' := [some (.inr (.inr (some 79))), some (.inl p1), some (.inl l4_2), some (.inl l4_3)]) (st' := [.inl 0, .inl l4_3, .inr (.inr (some 79)), .inl p1, .inr (.inr (some 79)), .inl l4_2]) (w' := (SH, dt113)) rfl ?_
        refine go_callq PM244 PM209 (Q' := _) rfl rfl rfl rfl (sp_X6_ofAnswer_0 L xs sio (d + 6) dt113 hI114 (MW_fr hM hF115 (by decide))  l4_3 (by first | exact bnd i116 (by decide) (by decide) | exact bndd i116 c131 (by decide) (by decide) | exact ⟨by omega, by omega⟩) ) ?_
        rintro _ _ ⟨rfl, h132⟩
        refine ⟨rfl, ?_⟩
        rcases h132 with ⟨rfl, h132⟩
        refine go_toq PM244 (k := 3) (pc' := 26) (L' := [some (.inr (.inr (some 79))), some (.inl p1), some (.inl l4_2), some (.inl l4_3)]) (st' := [.inl 1, .inl l4_3, .inr (.inr (some 79)), .inl (dt113 80 (((5540 + (6 * l4_3)) + 0)).toNat), .inl p1, .inr (.inr (some 79)), .inl l4_2]) (w' := (SH, dt113)) rfl ?_
        refine go_callq PM244 PM209 (Q' := _) rfl rfl rfl rfl (sp_X6_ofAnswer_1 L xs sio (d + 6) dt113 hI114 (MW_fr hM hF115 (by decide))  l4_3 (by first | exact bnd i116 (by decide) (by decide) | exact bndd i116 c131 (by decide) (by decide) | exact ⟨by omega, by omega⟩) ) ?_
        rintro _ _ ⟨rfl, h133⟩
        refine ⟨rfl, ?_⟩
        rcases h133 with ⟨rfl, h133⟩
        refine go_toq PM244 (k := 3) (pc' := 32) (L' := [some (.inr (.inr (some 79))), some (.inl p1), some (.inl l4_2), some (.inl l4_3)]) (st' := [.inl 2, .inl l4_3, .inr (.inr (some 79)), .inl (dt113 80 (((5540 + (6 * l4_3)) + 1)).toNat), .inl (dt113 80 (((5540 + (6 * l4_3)) + 0)).toNat), .inl p1, .inr (.inr (some 79)), .inl l4_2]) (w' := (SH, dt113)) rfl ?_
        refine go_callq PM244 PM209 (Q' := _) rfl rfl rfl rfl (sp_X6_ofAnswer_2 L xs sio (d + 6) dt113 hI114 (MW_fr hM hF115 (by decide))  l4_3 (by first | exact bnd i116 (by decide) (by decide) | exact bndd i116 c131 (by decide) (by decide) | exact ⟨by omega, by omega⟩) ) ?_
        rintro _ _ ⟨rfl, h134⟩
        refine ⟨rfl, ?_⟩
        rcases h134 with ⟨rfl, h134⟩
        refine go_toq PM244 (k := 3) (pc' := 38) (L' := [some (.inr (.inr (some 79))), some (.inl p1), some (.inl l4_2), some (.inl l4_3)]) (st' := [.inl 3, .inl l4_3, .inr (.inr (some 79)), .inl (dt113 80 (((5540 + (6 * l4_3)) + 2)).toNat), .inl (dt113 80 (((5540 + (6 * l4_3)) + 1)).toNat), .inl (dt113 80 (((5540 + (6 * l4_3)) + 0)).toNat), .inl p1, .inr (.inr (some 79)), .inl l4_2]) (w' := (SH, dt113)) rfl ?_
        refine go_callq PM244 PM209 (Q' := _) rfl rfl rfl rfl (sp_X6_ofAnswer_3 L xs sio (d + 6) dt113 hI114 (MW_fr hM hF115 (by decide))  l4_3 (by first | exact bnd i116 (by decide) (by decide) | exact bndd i116 c131 (by decide) (by decide) | exact ⟨by omega, by omega⟩) ) ?_
        rintro _ _ ⟨rfl, h135⟩
        refine ⟨rfl, ?_⟩
        rcases h135 with ⟨rfl, h135⟩
        refine go_callq PM244 PM215 (Q' := _) rfl rfl rfl rfl (sp_X6_chanceOf L xs sio (d + 0) dt113 hI114 (MW_fr hM hF115 (by decide))  p1 (by first | exact h_p1 | exact bnd h_p1 (by decide) (by decide) | exact ⟨by fail, by fail⟩) (dt113 80 (((5540 + (6 * l4_3)) + 0)).toNat) ⟨by omega, by omega⟩ (dt113 80 (((5540 + (6 * l4_3)) + 1)).toNat) ⟨by omega, by omega⟩ (dt113 80 (((5540 + (6 * l4_3)) + 2)).toNat) ⟨by omega, by omega⟩ (dt113 80 (((5540 + (6 * l4_3)) + 3)).toNat) ⟨by omega, by omega⟩ ) ?_
        rintro _ _ ⟨dt137, rfl, hI138, hF139, h136⟩
        refine ⟨rfl, ?_⟩
        have hF140 : Fr [86, 87, 88, 89, 90, 91, 92, 93, 94, 95, 96, 97, 98, 99, 100] dt dt137 := Fr_tr hF115 hF139 (by decide)
        rcases h136 with ⟨v_h136, rfl, h136r, h136⟩
        refine go_callq PM244 PM243 (Q' := _) rfl rfl rfl rfl (sp_X6_level L xs sio (d + 6) dt137 hI138  v_h136 ) ?_
        rintro _ _ ⟨rfl, h141⟩
        refine ⟨rfl, ?_⟩
        rcases h141 with ⟨v_h141, rfl, h141r, h141⟩
        refine go_toq PM244 (k := 4) (pc' := 4) (L' := [some (.inr (.inr (some 79))), some (.inl p1), some (.inl (l4_2 + v_h141)), some (.inl (l4_3 + 1))]) (st' := []) (w' := (SH, dt137)) rfl ?_
        exact GO.le (ih_loop117 (l4_2 + v_h141) (l4_3 + 1) dt137 hI138 hF140 (by first | exact bndp i116 (by decide) (by decide) | exact bnde i116 c131 (by decide) (by decide) | omega) (by omega)) ⟨.inl rfl, .inl rfl, .inl rfl, .inl rfl, trivial⟩
  exact GO.le (loop117 _ 0 0 dt hI hF ⟨by decide, by decide⟩ (Nat.lt_succ_self _)) ⟨.inl rfl, .inl rfl, .inl rfl, .inl rfl, trivial⟩
set_option maxRecDepth 20000 in
theorem sp_X6_score (L : Nat) (xs : Nat → Int32) (sio : Option Nat) (d : Nat) (dt : Nat → Nat → Int) (hI : InvC dt) (hM : MW (dt 80))  (p1 : Int) (h_p1 : (-2147483648) ≤ p1 ∧ p1 ≤ 2147483647)  : GO (am_XX L xs sio) (d + 8) 245 0 [some (.inr (.inr (some 79))), some (.inl p1), none, none, none, none] [] (SH, dt) (fun r w2 => ∃ dt2 : Nat → Nat → Int, w2 = (SH, dt2) ∧ InvC dt2 ∧ Fr [86, 87, 88, 89, 90, 91, 92, 93, 94, 95, 96, 97, 98, 99, 100] dt dt2 ∧ ((∃ v : Int, r = some (.inl v) ∧ True ∧ True))) := by
  have hF : Fr [86, 87, 88, 89, 90, 91, 92, 93, 94, 95, 96, 97, 98, 99, 100] dt dt := Fr_refl
  refine go_toq PM245 (k := 1) (pc' := 1) (L' := [some (.inr (.inr (some 79))), some (.inl p1), none, none, none, none]) (st' := [.inl p1]) (w' := (SH, dt)) rfl ?_
  refine go_callq PM245 PM200 (Q' := _) rfl rfl rfl rfl (sp_X6_isLaw L xs sio (d + 6) dt hI  p1 (by first | exact h_p1 | exact bnd h_p1 (by decide) (by decide) | exact ⟨by fail, by fail⟩) ) ?_
  rintro _ _ ⟨rfl, h1⟩
  refine ⟨rfl, ?_⟩
  rcases h1 with ⟨rfl, h1⟩ | ⟨rfl, h1⟩
  · skip
    refine go_toq PM245 (k := 3) (pc' := 9) (L' := [some (.inr (.inr (some 79))), some (.inl p1), none, none, none, none]) (st' := [.inl p1, .inr (.inr (some 79))]) (w' := (SH, dt)) rfl ?_
    refine go_callq PM245 PM244 (Q' := _) rfl rfl rfl rfl (sp_X6_scoreOf L xs sio (d + 0) dt hI hM  p1 (by first | exact h_p1 | exact bnd h_p1 (by decide) (by decide) | exact ⟨by omega, by omega⟩) ) ?_
    rintro _ _ ⟨dt3, rfl, hI4, hF5, h2⟩
    refine ⟨rfl, ?_⟩
    have hF6 : Fr [86, 87, 88, 89, 90, 91, 92, 93, 94, 95, 96, 97, 98, 99, 100] dt dt3 := Fr_tr hF hF5 (by decide)
    rcases h2 with ⟨v_h2, rfl, h2r, h2⟩
    refine go_retq PM245 (k := 0) (r := some (.inl v_h2)) (w1 := (SH, dt3)) rfl ?_
    exact ⟨dt3, rfl, hI4, hF6, ⟨_, rfl, trivial, trivial⟩⟩
  · skip
    refine go_ifq PM245 (k := 3) (p1 := 22) (p2 := 18) (L' := [some (.inr (.inr (some 79))), some (.inl p1), none, none, none, none]) (st' := []) (w' := (SH, dt)) rfl (c_eq (a := p1) (b := (-1)) (by first | exact bnd h_p1 (by decide) (by decide) | exact ⟨by fail, by fail⟩) ⟨by decide, by decide⟩) (fun c7 => ?_) (fun c7 => ?_)
    · skip
      refine go_toq PM245 (k := 4) (pc' := 26) (L' := [some (.inr (.inr (some 79))), some (.inl p1), some (.inl 0), none, none, none]) (st' := [.inl 0, .inr (.inr (some 79))]) (w' := (SH, dt)) rfl ?_
      refine go_callq PM245 PM244 (Q' := _) rfl rfl rfl rfl (sp_X6_scoreOf L xs sio (d + 0) dt hI hM  0 ⟨by decide, by decide⟩ ) ?_
      rintro _ _ ⟨dt9, rfl, hI10, hF11, h8⟩
      refine ⟨rfl, ?_⟩
      have hF12 : Fr [86, 87, 88, 89, 90, 91, 92, 93, 94, 95, 96, 97, 98, 99, 100] dt dt9 := Fr_tr hF hF11 (by decide)
      rcases h8 with ⟨v_h8, rfl, h8r, h8⟩
      refine go_toq PM245 (k := 3) (pc' := 33) (L' := [some (.inr (.inr (some 79))), some (.inl p1), some (.inl 0), some (.inl v_h8), some (.inl 1), none]) (st' := []) (w' := (SH, dt9)) rfl ?_
      have loop62 : ∀ (k_ : Nat) (l33_2 : Int) (l33_3 : Int) (l33_4 : Int) (dt57 : Nat → Nat → Int) (hI58 : InvC dt57) (hF59 : Fr [86, 87, 88, 89, 90, 91, 92, 93, 94, 95, 96, 97, 98, 99, 100] dt dt57) (i60 : 0 ≤ l33_2 ∧ l33_2 ≤ 3) (i61 : 1 ≤ l33_4 ∧ l33_4 ≤ 4), (5 - l33_4).toNat < k_ → GO (am_XX L xs sio) (d + 8) 245 33 [some (.inr (.inr (some 79))), none, some (.inl l33_2), some (.inl l33_3), some (.inl l33_4), none] [] (SH, dt57) (fun r w2 => ∃ dt2 : Nat → Nat → Int, w2 = (SH, dt2) ∧ InvC dt2 ∧ Fr [86, 87, 88, 89, 90, 91, 92, 93, 94, 95, 96, 97, 98, 99, 100] dt dt2 ∧ ((∃ v : Int, r = some (.inl v) ∧ True ∧ True))) := by
        intro k_
        induction k_ with
        | zero => intro l33_2 l33_3 l33_4 dt57 hI58 hF59 i60 i61 hm; exact absurd hm (Nat.not_lt_zero _)
        | succ k_ ih_loop62 =>
          intro l33_2 l33_3 l33_4 dt57 hI58 hF59 i60 i61 hm
          refine go_ifq PM245 (k := 2) (p1 := 68) (p2 := 39) (L' := [some (.inr (.inr (some 79))), none, some (.inl l33_2), some (.inl l33_3), some (.inl l33_4), none]) (st' := []) (w' := (SH, dt57)) rfl (c_ge (a := l33_4) (b := 4) (by first | exact bnd i61 (by decide) (by decide) | exact ⟨by fail, by fail⟩) ⟨by decide, by decide⟩) (fun c73 => ?_) (fun c73 => ?_)
          · skip
            refine go_retq PM245 (k := 1) (r := some (.inl l33_2)) (w1 := (SH, dt57)) rfl ?_
            exact ⟨dt57, rfl, hI58, hF59, ⟨_, rfl, trivial, trivial⟩⟩
          · skip
            refine go_toq PM245 (k := 2) (pc' := 42) (L' := [some (.inr (.inr (some 79))), none, some (.inl l33_2), some (.inl l33_3), some (.inl l33_4), none]) (st' := [.inl l33_4, .inr (.inr (some 79))]) (w' := (SH, dt57)) rfl ?_
            refine go_callq PM245 PM244 (Q' := _) rfl rfl rfl rfl (sp_X6_scoreOf L xs sio (d + 0) dt57 hI58 (MW_fr hM hF59 (by decide))  l33_4 (by first | exact bnd i61 (by decide) (by decide) | exact bndd i61 c73 (by decide) (by decide) | exact ⟨by fail, by fail⟩) ) ?_
            rintro _ _ ⟨dt75, rfl, hI76, hF77, h74⟩
            refine ⟨rfl, ?_⟩
            have hF78 : Fr [86, 87, 88, 89, 90, 91, 92, 93, 94, 95, 96, 97, 98, 99, 100] dt dt75 := Fr_tr hF59 hF77 (by decide)
            rcases h74 with ⟨v_h74, rfl, h74r, h74⟩
            have j82 : ∀ (j82_a2 : Int) (j82_a3 : Int) (i83 : 0 ≤ j82_a2 ∧ j82_a2 ≤ 3), GO (am_XX L xs sio) (d + 8) 245 62 [some (.inr (.inr (some 79))), none, some (.inl j82_a2), some (.inl j82_a3), some (.inl l33_4), none] [] (SH, dt75) (fun r w2 => ∃ dt2 : Nat → Nat → Int, w2 = (SH, dt2) ∧ InvC dt2 ∧ Fr [86, 87, 88, 89, 90, 91, 92, 93, 94, 95, 96, 97, 98, 99, 100] dt dt2 ∧ ((∃ v : Int, r = some (.inl v) ∧ True ∧ True))) := by
              intro j82_a2 j82_a3 i83
              refine go_toq PM245 (k := 2) (pc' := 33) (L' := [some (.inr (.inr (some 79))), none, some (.inl j82_a2), some (.inl j82_a3), some (.inl (l33_4 + 1)), none]) (st' := []) (w' := (SH, dt75)) rfl ?_
              exact GO.le (ih_loop62 j82_a2 j82_a3 (l33_4 + 1) dt75 hI76 hF78 (by first | exact bnd i83 (by decide) (by decide) | fail) (by first | exact bndp i61 (by decide) (by decide) | exact bnde i61 c73 (by decide) (by decide) | fail) (by omega)) ⟨.inl rfl, .inl rfl, .inl rfl, .inl rfl, .inl rfl, .inl rfl, trivial⟩
            have r85 := wr_RR v_h74
            have r86 := wr_RR l33_3
            refine go_ifq PM245 (k := 3) (p1 := 56) (p2 := 53) (L' := [some (.inr (.inr (some 79))), none, some (.inl l33_2), some (.inl l33_3), some (.inl l33_4), some (.inl v_h74)]) (st' := []) (w' := (SH, dt75)) rfl (u_gt (a := wr v_h74) (b := wr l33_3)) (fun c84 => ?_) (fun c84 => ?_)
            · skip
              refine go_toq PM245 (k := 4) (pc' := 62) (L' := [some (.inr (.inr (some 79))), none, some (.inl l33_4), some (.inl v_h74), some (.inl l33_4), some (.inl v_h74)]) (st' := []) (w' := (SH, dt75)) rfl ?_
              exact GO.le (j82 l33_4 v_h74 (by first | exact bnd i61 (by decide) (by decide) | omega)) ⟨.inl rfl, .inl rfl, .inl rfl, .inl rfl, .inl rfl, .inr ⟨rfl, trivial⟩, trivial⟩
            · skip
              refine go_toq PM245 (k := 1) (pc' := 62) (L' := [some (.inr (.inr (some 79))), none, some (.inl l33_2), some (.inl l33_3), some (.inl l33_4), some (.inl v_h74)]) (st' := []) (w' := (SH, dt75)) rfl ?_
              exact GO.le (j82 l33_2 l33_3 (by first | exact bnd i60 (by decide) (by decide) | fail)) ⟨.inl rfl, .inl rfl, .inl rfl, .inl rfl, .inl rfl, .inr ⟨rfl, trivial⟩, trivial⟩
      exact GO.le (loop62 _ 0 v_h8 1 dt9 hI10 hF12 ⟨by decide, by decide⟩ ⟨by decide, by decide⟩ (Nat.lt_succ_self _)) ⟨.inl rfl, .inr ⟨rfl, trivial⟩, .inl rfl, .inl rfl, .inl rfl, .inl rfl, trivial⟩
    · skip
      replace c7 := hid c7
      refine go_retq PM245 (k := 1) (r := some (.inl (-1000000))) (w1 := (SH, dt)) rfl ?_
      exact ⟨dt, rfl, hI, hF, ⟨_, rfl, trivial, trivial⟩⟩
set_option maxRecDepth 20000 in
theorem sp_X6_next (L : Nat) (xs : Nat → Int32) (sio : Option Nat) (d : Nat) (dt : Nat → Nat → Int) (hI : InvC dt) (hM : MW (dt 80))  (p1 : Int) (h_p1 : (-2147483648) ≤ p1 ∧ p1 ≤ 2147483647) (p2 : Int) (h_p2 : (-2147483648) ≤ p2 ∧ p2 ≤ 2147483647) (p3 : Int) (h_p3 : (-2147483648) ≤ p3 ∧ p3 ≤ 2147483647) (p4 : Int) (h_p4 : (-2147483648) ≤ p4 ∧ p4 ≤ 2147483647) (p5 : Int) (h_p5 : (-2147483648) ≤ p5 ∧ p5 ≤ 2147483647)  : GO (am_XX L xs sio) (d + 7) 246 0 [some (.inr (.inr (some 79))), some (.inl p1), some (.inl p2), some (.inl p3), some (.inl p4), some (.inl p5), none, none, none, none, none] [] (SH, dt) (fun r w2 => ∃ dt2 : Nat → Nat → Int, w2 = (SH, dt2) ∧ InvC dt2 ∧ Fr [86, 87, 88, 89, 90, 91, 92, 93, 94, 95, 96, 97, 98, 99, 100] dt dt2 ∧ ((∃ v : Int, r = some (.inl v) ∧ True ∧ True))) := by
  have hF : Fr [86, 87, 88, 89, 90, 91, 92, 93, 94, 95, 96, 97, 98, 99, 100] dt dt := Fr_refl
  refine go_toq PM246 (k := 1) (pc' := 1) (L' := [some (.inr (.inr (some 79))), some (.inl p1), some (.inl p2), some (.inl p3), some (.inl p4), some (.inl p5), none, none, none, none, none]) (st' := [.inl p1]) (w' := (SH, dt)) rfl ?_
  refine go_callq PM246 PM200 (Q' := _) rfl rfl rfl rfl (sp_X6_isLaw L xs sio (d + 5) dt hI  p1 (by first | exact h_p1 | exact bnd h_p1 (by decide) (by decide) | exact ⟨by fail, by fail⟩) ) ?_
  rintro _ _ ⟨rfl, h1⟩
  refine ⟨rfl, ?_⟩
  rcases h1 with ⟨rfl, h1⟩ | ⟨rfl, h1⟩
  · skip
    refine go_toq PM246 (k := 2) (pc' := 8) (L' := [some (.inr (.inr (some 79))), some (.inl p1), some (.inl p2), some (.inl p3), some (.inl p4), some (.inl p5), none, none, none, none, none]) (st' := [.inl p2]) (w' := (SH, dt)) rfl ?_
    refine go_callq PM246 PM200 (Q' := _) rfl rfl rfl rfl (sp_X6_isLaw L xs sio (d + 5) dt hI  p2 (by first | exact h_p2 | exact bnd h_p2 (by decide) (by decide) | exact ⟨by fail, by fail⟩) ) ?_
    rintro _ _ ⟨rfl, h2⟩
    refine ⟨rfl, ?_⟩
    rcases h2 with ⟨rfl, h2⟩ | ⟨rfl, h2⟩
    · skip
      refine go_toq PM246 (k := 3) (pc' := 16) (L' := [some (.inr (.inr (some 79))), some (.inl p1), some (.inl p2), some (.inl p3), some (.inl p4), some (.inl p5), none, none, none, none, none]) (st' := [.inl p3, .inr (.inr (some 79))]) (w' := (SH, dt)) rfl ?_
      refine go_callq PM246 PM199 (Q' := _) rfl rfl rfl rfl (sp_X6_isChild L xs sio (d + 5) dt hI hM  p3 (by first | exact h_p3 | exact bnd h_p3 (by decide) (by decide) | exact ⟨by fail, by fail⟩) ) ?_
      rintro _ _ ⟨rfl, h3⟩
      refine ⟨rfl, ?_⟩
      rcases h3 with ⟨rfl, h3⟩ | ⟨rfl, h3⟩
      · skip
        refine go_toq PM246 (k := 2) (pc' := 24) (L' := [some (.inr (.inr (some 79))), some (.inl p1), some (.inl p2), some (.inl p3), some (.inl p4), some (.inl p5), none, none, none, none, none]) (st' := [.inl p4]) (w' := (SH, dt)) rfl ?_
        refine go_callq PM246 PM201 (Q' := _) rfl rfl rfl rfl (sp_X6_isHow L xs sio (d + 5) dt hI  p4 (by first | exact h_p4 | exact bnd h_p4 (by decide) (by decide) | exact ⟨by fail, by fail⟩) ) ?_
        rintro _ _ ⟨rfl, h4⟩
        refine ⟨rfl, ?_⟩
        rcases h4 with ⟨rfl, h4⟩ | ⟨rfl, h4⟩
        · skip
          refine go_toq PM246 (k := 4) (pc' := 34) (L' := [some (.inr (.inr (some 79))), some (.inl p1), some (.inl p2), some (.inl p3), some (.inl p4), some (.inl p5), none, none, none, none, none]) (st' := [.inl 1, .inl 0, .inl p5]) (w' := (SH, dt)) rfl ?_
          refine go_callq PM246 PM146 (Q' := _) rfl rfl rfl rfl (sp_X6_isIn L xs sio (d + 6) dt hI  p5 (by first | exact h_p5 | exact bnd h_p5 (by decide) (by decide) | exact ⟨by fail, by fail⟩) 0 ⟨by decide, by decide⟩ 1 ⟨by decide, by decide⟩ ) ?_
          rintro _ _ ⟨rfl, h5⟩
          refine ⟨rfl, ?_⟩
          rcases h5 with ⟨rfl, h5⟩ | ⟨rfl, h5⟩
          · skip
            refine go_toq PM246 (k := 7) (pc' := 51) (L' := [some (.inr (.inr (some 79))), some (.inl p1), some (.inl p2), some (.inl p3), some (.inl p4), some (.inl p5), some (.inl (-1)), some (.inl (-1)), some (.inl 0), none, none]) (st' := []) (w' := (SH, dt)) rfl ?_
            have loop1811 : ∀ (k_ : Nat) (l51_6 : Int) (l51_7 : Int) (l51_8 : Int) (dt1806 : Nat → Nat → Int) (hI1807 : InvC dt1806) (hF1808 : Fr [86, 87, 88, 89, 90, 91, 92, 93, 94, 95, 96, 97, 98, 99, 100] dt dt1806) (i1809 : (-1) ≤ l51_6 ∧ l51_6 ≤ 11) (i1810 : 0 ≤ l51_8 ∧ l51_8 ≤ 12), (13 - l51_8).toNat < k_ → GO (am_XX L xs sio) (d + 7) 246 51 [some (.inr (.inr (some 79))), some (.inl p1), some (.inl p2), some (.inl p3), some (.inl p4), some (.inl p5), some (.inl l51_6), some (.inl l51_7), some (.inl l51_8), none, none] [] (SH, dt1806) (fun r w2 => ∃ dt2 : Nat → Nat → Int, w2 = (SH, dt2) ∧ InvC dt2 ∧ Fr [86, 87, 88, 89, 90, 91, 92, 93, 94, 95, 96, 97, 98, 99, 100] dt dt2 ∧ ((∃ v : Int, r = some (.inl v) ∧ True ∧ True))) := by
              intro k_
              induction k_ with
              | zero => intro l51_6 l51_7 l51_8 dt1806 hI1807 hF1808 i1809 i1810 hm; exact absurd hm (Nat.not_lt_zero _)
              | succ k_ ih_loop1811 =>
                intro l51_6 l51_7 l51_8 dt1806 hI1807 hF1808 i1809 i1810 hm
                refine go_toq PM246 (k := 4) (pc' := 58) (L' := [some (.inr (.inr (some 79))), some (.inl p1), some (.inl p2), some (.inl p3), some (.inl p4), some (.inl p5), some (.inl l51_6), some (.inl l51_7), some (.inl l51_8), none, none]) (st' := [.inl 1, .inr (.inr (some 80)), .inl l51_8]) (w' := (SH, dt1806)) rfl ?_
                have r1812 : (-2147483648) ≤ dt 80 1 ∧ dt 80 1 ≤ 2147483647 := InvC_get hI 80 1 rfl rfl
                have r1813 := MW_n hM
                refine go_smpq PM246 (L' := [some (.inr (.inr (some 79))), some (.inl p1), some (.inl p2), some (.inl p3), some (.inl p4), some (.inl p5), some (.inl l51_6), some (.inl l51_7), some (.inl l51_8), none, none]) (st' := [.inl (dt 80 1), .inl l51_8]) (w' := (SH, dt1806)) rfl rfl (s_ev (s_iald (n := 7460) (f := dt1806 80) rfl ⟨by decide, by decide⟩) (hF1808 80 (by decide) _)) ?_
                refine go_ifq PM246 (k := 0) (p1 := 136) (p2 := 62) (L' := [some (.inr (.inr (some 79))), some (.inl p1), some (.inl p2), some (.inl p3), some (.inl p4), some (.inl p5), some (.inl l51_6), some (.inl l51_7), some (.inl l51_8), none, none]) (st' := []) (w' := (SH, dt1806)) rfl (c_ge (a := l51_8) (b := dt 80 1) (by first | exact bnd i1810 (by decide) (by decide) | exact ⟨by fail, by fail⟩) (by first | exact bnd r1812 (by decide) (by decide) | exact ⟨by fail, by fail⟩)) (fun c1911 => ?_) (fun c1911 => ?_)
                · skip
                  have j1913 : ∀ (j1913_s0 : Int), GO (am_XX L xs sio) (d + 7) 246 148 [some (.inr (.inr (some 79))), none, none, none, none, none, none, none, none, none, none] [.inl j1913_s0] (SH, dt1806) (fun r w2 => ∃ dt2 : Nat → Nat → Int, w2 = (SH, dt2) ∧ InvC dt2 ∧ Fr [86, 87, 88, 89, 90, 91, 92, 93, 94, 95, 96, 97, 98, 99, 100] dt dt2 ∧ ((∃ v : Int, r = some (.inl v) ∧ True ∧ True))) := by
                    intro j1913_s0
                    refine go_retq PM246 (k := 0) (r := some (.inl j1913_s0)) (w1 := (SH, dt1806)) rfl ?_
                    exact ⟨dt1806, rfl, hI1807, hF1808, ⟨_, rfl, trivial, trivial⟩⟩
                  refine go_ifq PM246 (k := 1) (p1 := 146) (p2 := 141) (L' := [some (.inr (.inr (some 79))), some (.inl p1), some (.inl p2), some (.inl p3), some (.inl p4), some (.inl p5), some (.inl l51_6), some (.inl l51_7), some (.inl l51_8), none, none]) (st' := []) (w' := (SH, dt1806)) rfl (z_ne (a := p5) (by first | exact bnd h_p5 (by decide) (by decide) | exact ⟨by fail, by fail⟩)) (fun c1914 => ?_) (fun c1914 => ?_)
                  · skip
                    replace c1914 := hid c1914
                    refine go_toq PM246 (k := 1) (pc' := 148) (L' := [some (.inr (.inr (some 79))), some (.inl p1), some (.inl p2), some (.inl p3), some (.inl p4), some (.inl p5), some (.inl l51_6), some (.inl l51_7), some (.inl l51_8), none, none]) (st' := [.inl l51_7]) (w' := (SH, dt1806)) rfl ?_
                    exact GO.le (j1913 l51_7) ⟨.inl rfl, .inr ⟨rfl, trivial⟩, .inr ⟨rfl, trivial⟩, .inr ⟨rfl, trivial⟩, .inr ⟨rfl, trivial⟩, .inr ⟨rfl, trivial⟩, .inr ⟨rfl, trivial⟩, .inr ⟨rfl, trivial⟩, .inr ⟨rfl, trivial⟩, .inl rfl, .inl rfl, trivial⟩
                  · skip
                    refine go_toq PM246 (k := 2) (pc' := 148) (L' := [some (.inr (.inr (some 79))), some (.inl p1), some (.inl p2), some (.inl p3), some (.inl p4), some (.inl p5), some (.inl l51_6), some (.inl l51_7), some (.inl l51_8), none, none]) (st' := [.inl l51_6]) (w' := (SH, dt1806)) rfl ?_
                    exact GO.le (j1913 l51_6) ⟨.inl rfl, .inr ⟨rfl, trivial⟩, .inr ⟨rfl, trivial⟩, .inr ⟨rfl, trivial⟩, .inr ⟨rfl, trivial⟩, .inr ⟨rfl, trivial⟩, .inr ⟨rfl, trivial⟩, .inr ⟨rfl, trivial⟩, .inr ⟨rfl, trivial⟩, .inl rfl, .inl rfl, trivial⟩
                · skip
                  refine go_toq PM246 (k := 4) (pc' := 68) (L' := [some (.inr (.inr (some 79))), some (.inl p1), some (.inl p2), some (.inl p3), some (.inl p4), some (.inl p5), some (.inl l51_6), some (.inl l51_7), some (.inl l51_8), some (.inl 0), some (.inl (-1))]) (st' := []) (w' := (SH, dt1806)) rfl ?_
                  have loop1997 : ∀ (k_ : Nat) (l68_9 : Int) (l68_10 : Int) (dt1993 : Nat → Nat → Int) (hI1994 : InvC dt1993) (hF1995 : Fr [86, 87, 88, 89, 90, 91, 92, 93, 94, 95, 96, 97, 98, 99, 100] dt dt1993) (i1996 : (-1) ≤ l68_10 ∧ l68_10 ≤ 4), (5 - l68_10).toNat < k_ → GO (am_XX L xs sio) (d + 7) 246 68 [some (.inr (.inr (some 79))), some (.inl p1), some (.inl p2), some (.inl p3), some (.inl p4), some (.inl p5), some (.inl l51_6), some (.inl l51_7), some (.inl l51_8), some (.inl l68_9), some (.inl l68_10)] [] (SH, dt1993) (fun r w2 => ∃ dt2 : Nat → Nat → Int, w2 = (SH, dt2) ∧ InvC dt2 ∧ Fr [86, 87, 88, 89, 90, 91, 92, 93, 94, 95, 96, 97, 98, 99, 100] dt dt2 ∧ ((∃ v : Int, r = some (.inl v) ∧ True ∧ True))) := by
                    intro k_
                    induction k_ with
                    | zero => intro l68_9 l68_10 dt1993 hI1994 hF1995 i1996 hm; exact absurd hm (Nat.not_lt_zero _)
                    | succ k_ ih_loop1997 =>
                      intro l68_9 l68_10 dt1993 hI1994 hF1995 i1996 hm
                      refine go_ifq PM246 (k := 2) (p1 := 112) (p2 := 74) (L' := [some (.inr (.inr (some 79))), some (.inl p1), some (.inl p2), some (.inl p3), some (.inl p4), some (.inl p5), some (.inl l51_6), some (.inl l51_7), some (.inl l51_8), some (.inl l68_9), some (.inl l68_10)]) (st' := []) (w' := (SH, dt1993)) rfl (c_ge (a := l68_10) (b := 4) (by first | exact bnd i1996 (by decide) (by decide) | exact ⟨by fail, by fail⟩) ⟨by decide, by decide⟩) (fun c2010 => ?_) (fun c2010 => ?_)
                      · skip
                        have j2014 : ∀ (j2014_a6 : Int) (j2014_a7 : Int) (i2015 : (-1) ≤ j2014_a6 ∧ j2014_a6 ≤ 11), GO (am_XX L xs sio) (d + 7) 246 130 [some (.inr (.inr (some 79))), some (.inl p1), some (.inl p2), some (.inl p3), some (.inl p4), some (.inl p5), some (.inl j2014_a6), some (.inl j2014_a7), some (.inl l51_8), none, none] [] (SH, dt1993) (fun r w2 => ∃ dt2 : Nat → Nat → Int, w2 = (SH, dt2) ∧ InvC dt2 ∧ Fr [86, 87, 88, 89, 90, 91, 92, 93, 94, 95, 96, 97, 98, 99, 100] dt dt2 ∧ ((∃ v : Int, r = some (.inl v) ∧ True ∧ True))) := by
                          intro j2014_a6 j2014_a7 i2015
                          refine go_toq PM246 (k := 2) (pc' := 51) (L' := [some (.inr (.inr (some 79))), some (.inl p1), some (.inl p2), some (.inl p3), some (.inl p4), some (.inl p5), some (.inl j2014_a6), some (.inl j2014_a7), some (.inl (l51_8 + 1)), none, none]) (st' := []) (w' := (SH, dt1993)) rfl ?_
                          exact GO.le (ih_loop1811 j2014_a6 j2014_a7 (l51_8 + 1) dt1993 hI1994 hF1995 (by first | exact bnd i2015 (by decide) (by decide) | fail) (by first | exact bndp i1810 (by decide) (by decide) | exact bnde i1810 c1911 (by decide) (by decide) | omega) (by omega)) ⟨.inl rfl, .inl rfl, .inl rfl, .inl rfl, .inl rfl, .inl rfl, .inl rfl, .inl rfl, .inl rfl, .inl rfl, .inl rfl, trivial⟩
                        have r2017 := wr_RR l68_9
                        have r2018 := wr_RR l51_7
                        refine go_ifq PM246 (k := 2) (p1 := 122) (p2 := 119) (L' := [some (.inr (.inr (some 79))), some (.inl p1), some (.inl p2), some (.inl p3), some (.inl p4), some (.inl p5), some (.inl l51_6), some (.inl l51_7), some (.inl l51_8), some (.inl l68_9), some (.inl l68_10)]) (st' := []) (w' := (SH, dt1993)) rfl (u_gt (a := wr l68_9) (b := wr l51_7)) (fun c2016 => ?_) (fun c2016 => ?_)
                        · skip
                          refine go_toq PM246 (k := 4) (pc' := 130) (L' := [some (.inr (.inr (some 79))), some (.inl p1), some (.inl p2), some (.inl p3), some (.inl p4), some (.inl p5), some (.inl l51_8), some (.inl l68_9), some (.inl l51_8), some (.inl l68_9), some (.inl l68_10)]) (st' := []) (w' := (SH, dt1993)) rfl ?_
                          exact GO.le (j2014 l51_8 l68_9 (by first | exact bnd i1810 (by decide) (by decide) | omega)) ⟨.inl rfl, .inl rfl, .inl rfl, .inl rfl, .inl rfl, .inl rfl, .inl rfl, .inl rfl, .inl rfl, .inr ⟨rfl, trivial⟩, .inr ⟨rfl, trivial⟩, trivial⟩
                        · skip
                          refine go_toq PM246 (k := 1) (pc' := 130) (L' := [some (.inr (.inr (some 79))), some (.inl p1), some (.inl p2), some (.inl p3), some (.inl p4), some (.inl p5), some (.inl l51_6), some (.inl l51_7), some (.inl l51_8), some (.inl l68_9), some (.inl l68_10)]) (st' := []) (w' := (SH, dt1993)) rfl ?_
                          exact GO.le (j2014 l51_6 l51_7 (by first | exact bnd i1809 (by decide) (by decide) | fail)) ⟨.inl rfl, .inl rfl, .inl rfl, .inl rfl, .inl rfl, .inl rfl, .inl rfl, .inl rfl, .inl rfl, .inr ⟨rfl, trivial⟩, .inr ⟨rfl, trivial⟩, trivial⟩
                      · skip
                        refine go_toq PM246 (k := 7) (pc' := 85) (L' := [some (.inr (.inr (some 79))), some (.inl p1), some (.inl p2), some (.inl p3), some (.inl p4), some (.inl p5), some (.inl l51_6), some (.inl l51_7), some (.inl l51_8), some (.inl l68_9), some (.inl l68_10)]) (st' := [.inl l68_10, .inl p4, .inl l51_8, .inl p3, .inl p1, .inr (.inr (some 79)), .inl l68_9]) (w' := (SH, dt1993)) rfl ?_
                        refine go_callq PM246 PM215 (Q' := _) rfl rfl rfl rfl (sp_X6_chanceOf L xs sio (d + 0) dt1993 hI1994 (MW_fr hM hF1995 (by decide))  p1 (by first | exact h_p1 | exact bnd h_p1 (by decide) (by decide) | exact ⟨by omega, by omega⟩) p3 (by first | exact h_p3 | exact bnd h_p3 (by decide) (by decide) | exact ⟨by omega, by omega⟩) l51_8 (by first | exact bnd i1810 (by decide) (by decide) | exact bndd i1810 c1911 (by decide) (by decide) | exact ⟨by omega, by omega⟩) p4 (by first | exact h_p4 | exact bnd h_p4 (by decide) (by decide) | exact ⟨by omega, by omega⟩) l68_10 (by first | exact bnd i1996 (by decide) (by decide) | exact bndd i1996 c2010 (by decide) (by decide) | exact ⟨by fail, by fail⟩) ) ?_
                        rintro _ _ ⟨dt2020, rfl, hI2021, hF2022, h2019⟩
                        refine ⟨rfl, ?_⟩
                        have hF2023 : Fr [86, 87, 88, 89, 90, 91, 92, 93, 94, 95, 96, 97, 98, 99, 100] dt dt2020 := Fr_tr hF1995 hF2022 (by decide)
                        rcases h2019 with ⟨v_h2019, rfl, h2019r, h2019⟩
                        refine go_toq PM246 (k := 6) (pc' := 97) (L' := [some (.inr (.inr (some 79))), some (.inl p1), some (.inl p2), some (.inl p3), some (.inl p4), some (.inl p5), some (.inl l51_6), some (.inl l51_7), some (.inl l51_8), some (.inl l68_9), some (.inl l68_10)]) (st' := [.inl l68_10, .inl p4, .inl l51_8, .inl p3, .inl p2, .inr (.inr (some 79)), .inl v_h2019, .inl l68_9]) (w' := (SH, dt2020)) rfl ?_
                        refine go_callq PM246 PM215 (Q' := _) rfl rfl rfl rfl (sp_X6_chanceOf L xs sio (d + 0) dt2020 hI2021 (MW_fr hM hF2023 (by decide))  p2 (by first | exact h_p2 | exact bnd h_p2 (by decide) (by decide) | exact ⟨by omega, by omega⟩) p3 (by first | exact h_p3 | exact bnd h_p3 (by decide) (by decide) | exact ⟨by omega, by omega⟩) l51_8 (by first | exact bnd i1810 (by decide) (by decide) | exact bndd i1810 c1911 (by decide) (by decide) | exact ⟨by omega, by omega⟩) p4 (by first | exact h_p4 | exact bnd h_p4 (by decide) (by decide) | exact ⟨by omega, by omega⟩) l68_10 (by first | exact bnd i1996 (by decide) (by decide) | exact bndd i1996 c2010 (by decide) (by decide) | exact ⟨by fail, by fail⟩) ) ?_
                        rintro _ _ ⟨dt2025, rfl, hI2026, hF2027, h2024⟩
                        refine ⟨rfl, ?_⟩
                        have hF2028 : Fr [86, 87, 88, 89, 90, 91, 92, 93, 94, 95, 96, 97, 98, 99, 100] dt dt2025 := Fr_tr hF2023 hF2027 (by decide)
                        rcases h2024 with ⟨v_h2024, rfl, h2024r, h2024⟩
                        refine go_callq PM246 PM147 (Q' := _) rfl rfl rfl rfl (sp_X6_apart L xs sio (d + 6) dt2025 hI2026  v_h2019 v_h2024 ) ?_
                        rintro _ _ ⟨rfl, h2029⟩
                        refine ⟨rfl, ?_⟩
                        rcases h2029 with ⟨v_h2029, rfl, h2029r, h2029⟩
                        refine go_toq PM246 (k := 4) (pc' := 68) (L' := [some (.inr (.inr (some 79))), some (.inl p1), some (.inl p2), some (.inl p3), some (.inl p4), some (.inl p5), some (.inl l51_6), some (.inl l51_7), some (.inl l51_8), some (.inl (l68_9 + v_h2029)), some (.inl (l68_10 + 1))]) (st' := []) (w' := (SH, dt2025)) rfl ?_
                        exact GO.le (ih_loop1997 (l68_9 + v_h2029) (l68_10 + 1) dt2025 hI2026 hF2028 (by first | exact bndp i1996 (by decide) (by decide) | exact bnde i1996 c2010 (by decide) (by decide) | fail) (by omega)) ⟨.inl rfl, .inl rfl, .inl rfl, .inl rfl, .inl rfl, .inl rfl, .inl rfl, .inl rfl, .inl rfl, .inl rfl, .inl rfl, trivial⟩
                  exact GO.le (loop1997 _ 0 (-1) dt1806 hI1807 hF1808 ⟨by decide, by decide⟩ (Nat.lt_succ_self _)) ⟨.inl rfl, .inl rfl, .inl rfl, .inl rfl, .inl rfl, .inl rfl, .inl rfl, .inl rfl, .inl rfl, .inl rfl, .inl rfl, trivial⟩
            exact GO.le (loop1811 _ (-1) (-1) 0 dt hI hF ⟨by decide, by decide⟩ ⟨by decide, by decide⟩ (Nat.lt_succ_self _)) ⟨.inl rfl, .inl rfl, .inl rfl, .inl rfl, .inl rfl, .inl rfl, .inl rfl, .inl rfl, .inl rfl, .inl rfl, .inl rfl, trivial⟩
          · skip
            refine go_retq PM246 (k := 2) (r := some (.inl (-1))) (w1 := (SH, dt)) rfl ?_
            exact ⟨dt, rfl, hI, hF, ⟨_, rfl, trivial, trivial⟩⟩
        · skip
          refine go_retq PM246 (k := 2) (r := some (.inl (-1))) (w1 := (SH, dt)) rfl ?_
          exact ⟨dt, rfl, hI, hF, ⟨_, rfl, trivial, trivial⟩⟩
      · skip
        refine go_retq PM246 (k := 2) (r := some (.inl (-1))) (w1 := (SH, dt)) rfl ?_
        exact ⟨dt, rfl, hI, hF, ⟨_, rfl, trivial, trivial⟩⟩
    · skip
      refine go_retq PM246 (k := 2) (r := some (.inl (-1))) (w1 := (SH, dt)) rfl ?_
      exact ⟨dt, rfl, hI, hF, ⟨_, rfl, trivial, trivial⟩⟩
  · skip
    refine go_retq PM246 (k := 2) (r := some (.inl (-1))) (w1 := (SH, dt)) rfl ?_
    exact ⟨dt, rfl, hI, hF, ⟨_, rfl, trivial, trivial⟩⟩
