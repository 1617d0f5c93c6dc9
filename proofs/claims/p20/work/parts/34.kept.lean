theorem sp_X0_saidOf (L : Nat) (xs : Nat → Int32) (sio : Option Nat) (d : Nat) (dt : Nat → Nat → Int) (hI : InvC dt)  (p1 : Int) (h_p1 : (-2147483648) ≤ p1 ∧ p1 ≤ 2147483647) (p2 : Int) (h_p2 : (-2147483648) ≤ p2 ∧ p2 ≤ 2147483647)  : GO (am_XX L xs sio) (d + 1) 1 0 [some (.inr (.inr (some 1))), some (.inl p1), some (.inl p2), none] [] (SH, dt) (fun r w2 => w2 = (SH, dt) ∧ ((∃ v : Int, r = some (.inl v) ∧ ((-2147483648) ≤ v ∧ v ≤ 2147483647) ∧ True))) := by
  refine go_toq PM1 (k := 3) (pc' := 5) (L' := [some (.inr (.inr (some 1))), some (.inl p1), some (.inl p2), none]) (st' := [.inl p1, .inr (.inr (some 7))]) (w' := (SH, dt)) rfl ?_
  have r1 : 0 ≤ dt 7 3 ∧ dt 7 3 ≤ 12 := InvC_get hI 7 3 rfl rfl
  refine go_callq PM1 PM37 (Q' := _) rfl rfl rfl rfl (sp_X2_has_7 L xs sio (d + 0) dt hI  p1 (by first | exact h_p1 | exact bnd h_p1 (by decide) (by decide) | exact ⟨by fail, by fail⟩) ) ?_
  rintro _ _ ⟨rfl, h2⟩
  refine ⟨rfl, ?_⟩
  rcases h2 with ⟨rfl, h2⟩ | ⟨rfl, h2⟩
  · skip
    have j5 :  GO (am_XX L xs sio) (d + 1) 1 26 [some (.inr (.inr (some 1))), some (.inl p1), some (.inl p2), none] [.inl 0] (SH, dt) (fun r w2 => w2 = (SH, dt) ∧ ((∃ v : Int, r = some (.inl v) ∧ ((-2147483648) ≤ v ∧ v ≤ 2147483647) ∧ True))) := by
      skip
      refine go_retq PM1 (k := 4) (r := some (.inl (-1))) (w1 := (SH, dt)) rfl ?_
      exact ⟨rfl, ⟨_, rfl, ⟨by decide, by decide⟩, trivial⟩⟩
    refine go_ifq PM1 (k := 2) (p1 := 25) (p2 := 15) (L' := [some (.inr (.inr (some 1))), some (.inl p1), some (.inl p2), none]) (st' := []) (w' := (SH, dt)) rfl (z_lt (a := p2) (by first | exact bnd h_p2 (by decide) (by decide) | exact ⟨by fail, by fail⟩)) (fun c6 => ?_) (fun c6 => ?_)
    · skip
      refine go_toq PM1 (k := 1) (pc' := 26) (L' := [some (.inr (.inr (some 1))), some (.inl p1), some (.inl p2), none]) (st' := [.inl 0]) (w' := (SH, dt)) rfl ?_
      exact GO.le (j5 ) ⟨.inl rfl, .inl rfl, .inl rfl, .inl rfl, trivial⟩
    · skip
      refine go_ifq PM1 (k := 2) (p1 := 25) (p2 := 21) (L' := [some (.inr (.inr (some 1))), some (.inl p1), some (.inl p2), none]) (st' := []) (w' := (SH, dt)) rfl (c_ge (a := p2) (b := 11) (by first | exact bnd h_p2 (by decide) (by decide) | exact ⟨by fail, by fail⟩) ⟨by decide, by decide⟩) (fun c7 => ?_) (fun c7 => ?_)
      · skip
        refine go_toq PM1 (k := 1) (pc' := 26) (L' := [some (.inr (.inr (some 1))), some (.inl p1), some (.inl p2), none]) (st' := [.inl 0]) (w' := (SH, dt)) rfl ?_
        exact GO.le (j5 ) ⟨.inl rfl, .inl rfl, .inl rfl, .inl rfl, trivial⟩
      · skip
        refine go_toq PM1 (k := 12) (pc' := 41) (L' := [some (.inr (.inr (some 1))), some (.inl p1), some (.inl p2), some (.inl 1)]) (st' := [.inl ((p1 * 11) + p2), .inr (.inr (some 9))]) (w' := (SH, dt)) rfl ?_
        have r9 : (-2147483648) ≤ dt 9 (((p1 * 11) + p2).toNat) ∧ dt 9 (((p1 * 11) + p2).toNat) ≤ 2147483647 := InvC_get hI 9 (((p1 * 11) + p2).toNat) rfl rfl
        refine go_smpq PM1 (L' := [some (.inr (.inr (some 1))), some (.inl p1), some (.inl p2), some (.inl 1)]) (st' := [.inl (dt 9 (((p1 * 11) + p2).toNat))]) (w' := (SH, dt)) rfl rfl (s_iald (n := 132) (f := dt 9) rfl ⟨by omega, by omega⟩) ?_
        refine go_retq PM1 (k := 1) (r := some (.inl (dt 9 (((p1 * 11) + p2).toNat)))) (w1 := (SH, dt)) rfl ?_
        exact ⟨rfl, ⟨_, rfl, (by first | exact bnd r9 (by decide) (by decide) | exact ⟨by fail, by fail⟩), trivial⟩⟩
  · skip
    refine go_retq PM1 (k := 6) (r := some (.inl (-1))) (w1 := (SH, dt)) rfl ?_
    exact ⟨rfl, ⟨_, rfl, ⟨by decide, by decide⟩, trivial⟩⟩
theorem sp_X0_takeLaw (L : Nat) (xs : Nat → Int32) (sio : Option Nat) (d : Nat) (dt : Nat → Nat → Int) (hI : InvC dt)  (p1 : Int) (h_p1 : (-2147483648) ≤ p1 ∧ p1 ≤ 2147483647) (p3 : Int) (h_p3 : (-2147483648) ≤ p3 ∧ p3 ≤ 2147483647)  : GO (am_XX L xs sio) (d + 2) 3 0 [some (.inr (.inr (some 1))), some (.inl p1), some (.inr (.inr (some 35))), some (.inl p3)] [] (SH, dt) (fun r w2 => ∃ dt2 : Nat → Nat → Int, w2 = (SH, dt2) ∧ InvC dt2 ∧ Fr [4, 5, 6] dt dt2 ∧ ((r = none ∧ True))) := by
  have hF : Fr [4, 5, 6] dt dt := Fr_refl
  refine go_toq PM3 (k := 1) (pc' := 1) (L' := [some (.inr (.inr (some 1))), some (.inl p1), some (.inr (.inr (some 35))), some (.inl p3)]) (st' := [.inl p1]) (w' := (SH, dt)) rfl ?_
  refine go_callq PM3 PM103 (Q' := _) rfl rfl rfl rfl (sp_X5_isLaw L xs sio (d + 0) dt hI  p1 (by first | exact h_p1 | exact bnd h_p1 (by decide) (by decide) | exact ⟨by omega, by omega⟩) ) ?_
  rintro _ _ ⟨rfl, h1⟩
  refine ⟨rfl, ?_⟩
  rcases h1 with ⟨rfl, h1⟩ | ⟨rfl, h1⟩
  · skip
    refine go_toq PM3 (k := 12) (pc' := 24) (L' := [some (.inr (.inr (some 1))), some (.inl p1), some (.inr (.inr (some 35))), some (.inl p3)]) (st' := [.inl 64, .inl ((p1 * 16) * 4), .inr (.inr (some 4)), .inl 0, .inr (.inr (some 41))]) (w' := (SH, dt)) rfl ?_
    have hI9 : InvC (am_cp dt 41 4 0 (((p1 * 16) * 4).toNat) 64) := InvC_cp hI (fun _ _ => rfl) (fun _ _ => rfl) (fun _ => rfl)
    have hF10 : Fr [4, 5, 6] dt (am_cp dt 41 4 0 (((p1 * 16) * 4).toNat) 64) := Fr_cp hF (by decide)
    refine go_cpyq PM3 (L' := [some (.inr (.inr (some 1))), some (.inl p1), some (.inr (.inr (some 35))), some (.inl p3)]) (st' := []) (w' := (SH, (am_cp dt 41 4 0 (((p1 * 16) * 4).toNat) 64))) rfl rfl (s_cpy (n0 := 64) (n1 := 256) rfl rfl ⟨⟨by omega, by omega, by omega⟩, by omega, by omega, by decide⟩) ?_
    refine go_toq PM3 (k := 9) (pc' := 44) (L' := [some (.inr (.inr (some 1))), some (.inl p1), some (.inr (.inr (some 35))), some (.inl p3)]) (st' := [.inl 500, .inl (p1 * 500), .inr (.inr (some 6)), .inl 0, .inr (.inr (some 42))]) (w' := (SH, (am_cp dt 41 4 0 (((p1 * 16) * 4).toNat) 64))) rfl ?_
    have hI11 : InvC (am_cp (am_cp dt 41 4 0 (((p1 * 16) * 4).toNat) 64) 42 6 0 ((p1 * 500).toNat) 500) := InvC_cp hI9 (fun _ _ => rfl) (fun _ _ => rfl) (fun _ => rfl)
    have hF12 : Fr [4, 5, 6] dt (am_cp (am_cp dt 41 4 0 (((p1 * 16) * 4).toNat) 64) 42 6 0 ((p1 * 500).toNat) 500) := Fr_cp hF10 (by decide)
    refine go_cpyq PM3 (L' := [some (.inr (.inr (some 1))), some (.inl p1), some (.inr (.inr (some 35))), some (.inl p3)]) (st' := []) (w' := (SH, (am_cp (am_cp dt 41 4 0 (((p1 * 16) * 4).toNat) 64) 42 6 0 ((p1 * 500).toNat) 500))) rfl rfl (s_cpy (n0 := 500) (n1 := 2000) rfl rfl ⟨⟨by omega, by omega, by omega⟩, by omega, by omega, by decide⟩) ?_
    refine go_toq PM3 (k := 5) (pc' := 55) (L' := [some (.inr (.inr (some 1))), some (.inl p1), some (.inr (.inr (some 35))), some (.inl p3)]) (st' := [.inl 16, .inl p3, .inl p1, .inr (.inr (some 5))]) (w' := (SH, (am_cp (am_cp dt 41 4 0 (((p1 * 16) * 4).toNat) 64) 42 6 0 ((p1 * 500).toNat) 500))) rfl ?_
    refine go_callq PM3 PM101 (Q' := _) rfl rfl rfl rfl (sp_X5_cut L xs sio (d + 0) (am_cp (am_cp dt 41 4 0 (((p1 * 16) * 4).toNat) 64) 42 6 0 ((p1 * 500).toNat) 500) hI11  p3 (by first | exact h_p3 | exact bnd h_p3 (by decide) (by decide) | exact ⟨by omega, by omega⟩) 16 ⟨by decide, by decide⟩ ) ?_
    rintro _ _ ⟨rfl, h13⟩
    refine ⟨rfl, ?_⟩
    rcases h13 with ⟨v_h13, rfl, h13r, h13⟩
    have hI14 : InvC (u2 (am_cp (am_cp dt 41 4 0 (((p1 * 16) * 4).toNat) 64) 42 6 0 ((p1 * 500).toNat) 500) 5 (p1).toNat v_h13) := InvC_u2 hI11 (lo := -2147483648) (hi := 2147483647) rfl rfl rfl (by first | exact bnd1 h13r (by decide) | omega) (by first | exact bnd2 h13r (by decide) | omega)
    have hF15 : Fr [4, 5, 6] dt (u2 (am_cp (am_cp dt 41 4 0 (((p1 * 16) * 4).toNat) 64) 42 6 0 ((p1 * 500).toNat) 500) 5 (p1).toNat v_h13) := Fr_u2 hF12 (by decide)
    refine go_smpq PM3 (L' := [some (.inr (.inr (some 1))), some (.inl p1), some (.inr (.inr (some 35))), some (.inl p3)]) (st' := []) (w' := (SH, (u2 (am_cp (am_cp dt 41 4 0 (((p1 * 16) * 4).toNat) 64) 42 6 0 ((p1 * 500).toNat) 500) 5 (p1).toNat v_h13))) rfl rfl (s_iast (n := 4) rfl ⟨by omega, by omega⟩ ⟨by omega, by omega⟩) ?_
    refine go_retq PM3 (k := 0) (r := none) (w1 := (SH, (u2 (am_cp (am_cp dt 41 4 0 (((p1 * 16) * 4).toNat) 64) 42 6 0 ((p1 * 500).toNat) 500) 5 (p1).toNat v_h13))) rfl ?_
    exact ⟨(u2 (am_cp (am_cp dt 41 4 0 (((p1 * 16) * 4).toNat) 64) 42 6 0 ((p1 * 500).toNat) 500) 5 (p1).toNat v_h13), rfl, hI14, hF15, ⟨rfl, trivial⟩⟩
  · skip
    refine go_retq PM3 (k := 1) (r := none) (w1 := (SH, dt)) rfl ?_
    exact ⟨dt, rfl, hI, hF, ⟨rfl, trivial⟩⟩
theorem sp_X3_give (L : Nat) (xs : Nat → Int32) (sio : Option Nat) (d : Nat) (dt : Nat → Nat → Int) (hI : InvC dt)  (p1 : Int) (h_p1 : (-2147483648) ≤ p1 ∧ p1 ≤ 2147483647) (p2 : Int) (h_p2 : (-2147483648) ≤ p2 ∧ p2 ≤ 2147483647)  : GO (am_XX L xs sio) (d) 44 0 [some (.inr (.inr (some 71))), some (.inl p1), some (.inl p2)] [] (SH, dt) (fun r w2 => ∃ dt2 : Nat → Nat → Int, w2 = (SH, dt2) ∧ InvC dt2 ∧ Fr [73] dt dt2 ∧ ((r = none ∧ True))) := by
  have hF : Fr [73] dt dt := Fr_refl
  have j5 : ∀ (j5_d : Nat → Nat → Int) (j5_hI : InvC j5_d) (j5_hF : Fr [73] dt j5_d), GO (am_XX L xs sio) (d) 44 17 [some (.inr (.inr (some 71))), none, none] [] (SH, j5_d) (fun r w2 => ∃ dt2 : Nat → Nat → Int, w2 = (SH, dt2) ∧ InvC dt2 ∧ Fr [73] dt dt2 ∧ ((r = none ∧ True))) := by
    intro j5_d j5_hI j5_hF
    refine go_retq PM44 (k := 0) (r := none) (w1 := (SH, j5_d)) rfl ?_
    exact ⟨j5_d, rfl, j5_hI, j5_hF, ⟨rfl, trivial⟩⟩
  refine go_ifq PM44 (k := 1) (p1 := 17) (p2 := 4) (L' := [some (.inr (.inr (some 71))), some (.inl p1), some (.inl p2)]) (st' := []) (w' := (SH, dt)) rfl (z_lt (a := p1) (by first | exact bnd h_p1 (by decide) (by decide) | exact ⟨by fail, by fail⟩)) (fun c6 => ?_) (fun c6 => ?_)
  · skip
    exact GO.le (j5 dt hI hF) ⟨.inl rfl, .inr ⟨rfl, trivial⟩, .inr ⟨rfl, trivial⟩, trivial⟩
  · skip
    refine go_ifq PM44 (k := 2) (p1 := 17) (p2 := 10) (L' := [some (.inr (.inr (some 71))), some (.inl p1), some (.inl p2)]) (st' := []) (w' := (SH, dt)) rfl (c_ge (a := p1) (b := 6) (by first | exact bnd h_p1 (by decide) (by decide) | exact ⟨by fail, by fail⟩) ⟨by decide, by decide⟩) (fun c7 => ?_) (fun c7 => ?_)
    · skip
      exact GO.le (j5 dt hI hF) ⟨.inl rfl, .inr ⟨rfl, trivial⟩, .inr ⟨rfl, trivial⟩, trivial⟩
    · skip
      refine go_toq PM44 (k := 4) (pc' := 16) (L' := [some (.inr (.inr (some 71))), some (.inl p1), some (.inl p2)]) (st' := [.inl p2, .inl p1, .inr (.inr (some 73))]) (w' := (SH, dt)) rfl ?_
      have hI8 : InvC (u2 dt 73 (p1).toNat p2) := InvC_u2 hI (lo := -2147483648) (hi := 2147483647) rfl rfl rfl (by first | exact bnd1 h_p2 (by decide) | fail) (by first | exact bnd2 h_p2 (by decide) | fail)
      have hF9 : Fr [73] dt (u2 dt 73 (p1).toNat p2) := Fr_u2 hF (by decide)
      refine go_smpq PM44 (L' := [some (.inr (.inr (some 71))), some (.inl p1), some (.inl p2)]) (st' := []) (w' := (SH, (u2 dt 73 (p1).toNat p2))) rfl rfl (s_iast (n := 6) rfl (by first | exact bndc h_p1 c7 (by decide) (by decide) | exact bndx h_p1 (by decide) (by decide) | exact ⟨by omega, by omega⟩) (by first | exact bnd h_p2 (by decide) (by decide) | exact ⟨by fail, by fail⟩)) ?_
      exact GO.le (j5 (u2 dt 73 (p1).toNat p2) hI8 hF9) ⟨.inl rfl, .inr ⟨rfl, trivial⟩, .inr ⟨rfl, trivial⟩, trivial⟩
theorem sp_X3_ruleOf (L : Nat) (xs : Nat → Int32) (sio : Option Nat) (d : Nat) (dt : Nat → Nat → Int) (hI : InvC dt)  (p1 : Int) (h_p1 : (-2147483648) ≤ p1 ∧ p1 ≤ 2147483647)  : GO (am_XX L xs sio) (d) 46 0 [some (.inr (.inr (some 71))), some (.inl p1), none, none] [] (SH, dt) (fun r w2 => w2 = (SH, dt) ∧ ((∃ v : Int, r = some (.inl v) ∧ (0 ≤ v ∧ v ≤ 7) ∧ True))) := by
  refine go_toq PM46 (k := 4) (pc' := 4) (L' := [some (.inr (.inr (some 71))), some (.inl p1), some (.inl 0), some (.inl 0)]) (st' := []) (w' := (SH, dt)) rfl ?_
  have loop34 : ∀ (k_ : Nat) (l4_2 : Int) (l4_3 : Int) (i33 : 0 ≤ l4_3 ∧ l4_3 ≤ 8), (9 - l4_3).toNat < k_ → GO (am_XX L xs sio) (d) 46 4 [some (.inr (.inr (some 71))), some (.inl p1), some (.inl l4_2), some (.inl l4_3)] [] (SH, dt) (fun r w2 => w2 = (SH, dt) ∧ ((∃ v : Int, r = some (.inl v) ∧ (0 ≤ v ∧ v ≤ 7) ∧ True))) := by
    intro k_
    induction k_ with
    | zero => intro l4_2 l4_3 i33 hm; exact absurd hm (Nat.not_lt_zero _)
    | succ k_ ih_loop34 =>
      intro l4_2 l4_3 i33 hm
      refine go_ifq PM46 (k := 2) (p1 := 32) (p2 := 10) (L' := [some (.inr (.inr (some 71))), some (.inl p1), some (.inl l4_2), some (.inl l4_3)]) (st' := []) (w' := (SH, dt)) rfl (c_ge (a := l4_3) (b := 8) (by first | exact bnd i33 (by decide) (by decide) | exact ⟨by fail, by fail⟩) ⟨by decide, by decide⟩) (fun c35 => ?_) (fun c35 => ?_)
      · skip
        refine go_retq PM46 (k := 1) (r := some (.inl 7)) (w1 := (SH, dt)) rfl ?_
        exact ⟨rfl, ⟨_, rfl, ⟨by decide, by decide⟩, trivial⟩⟩
      · skip
        refine go_toq PM46 (k := 4) (pc' := 16) (L' := [some (.inr (.inr (some 71))), some (.inl p1), some (.inl l4_2), some (.inl l4_3)]) (st' := [.inl l4_3, .inr (.inr (some 72)), .inl l4_2]) (w' := (SH, dt)) rfl ?_
        have r36 : 0 ≤ dt 72 (l4_3).toNat ∧ dt 72 (l4_3).toNat ≤ 100 := InvC_get hI 72 (l4_3).toNat rfl rfl
        refine go_smpq PM46 (L' := [some (.inr (.inr (some 71))), some (.inl p1), some (.inl l4_2), some (.inl l4_3)]) (st' := [.inl (dt 72 (l4_3).toNat), .inl l4_2]) (w' := (SH, dt)) rfl rfl (s_iald (n := 9) (f := dt 72) rfl (by first | exact bndc i33 c35 (by decide) (by decide) | exact bndx i33 (by decide) (by decide) | exact ⟨by fail, by fail⟩)) ?_
        have r38 := wr_RR (l4_2 + (dt 72 (l4_3).toNat))
        have r39 := wr_RR p1
        refine go_ifq PM46 (k := 4) (p1 := 26) (p2 := 24) (L' := [some (.inr (.inr (some 71))), some (.inl p1), some (.inl (l4_2 + (dt 72 (l4_3).toNat))), some (.inl l4_3)]) (st' := []) (w' := (SH, dt)) rfl (u_le (a := wr (l4_2 + (dt 72 (l4_3).toNat))) (b := wr p1)) (fun c37 => ?_) (fun c37 => ?_)
        · skip
          refine go_toq PM46 (k := 2) (pc' := 4) (L' := [some (.inr (.inr (some 71))), some (.inl p1), some (.inl (l4_2 + (dt 72 (l4_3).toNat))), some (.inl (l4_3 + 1))]) (st' := []) (w' := (SH, dt)) rfl ?_
          exact GO.le (ih_loop34 (l4_2 + (dt 72 (l4_3).toNat)) (l4_3 + 1) (by first | exact bndp i33 (by decide) (by decide) | exact bnde i33 c35 (by decide) (by decide) | fail) (by omega)) ⟨.inl rfl, .inl rfl, .inl rfl, .inl rfl, trivial⟩
        · skip
          refine go_retq PM46 (k := 1) (r := some (.inl l4_3)) (w1 := (SH, dt)) rfl ?_
          exact ⟨rfl, ⟨_, rfl, (by first | exact bnd i33 (by decide) (by decide) | exact bndd i33 c35 (by decide) (by decide) | exact ⟨by fail, by fail⟩), trivial⟩⟩
  exact GO.le (loop34 _ 0 0 ⟨by decide, by decide⟩ (Nat.lt_succ_self _)) ⟨.inl rfl, .inl rfl, .inl rfl, .inl rfl, trivial⟩
theorem sp_X3_worked (L : Nat) (xs : Nat → Int32) (sio : Option Nat) (d : Nat) (dt : Nat → Nat → Int) (hI : InvC dt)  (p1 : Int) (h_p1 : (-2147483648) ≤ p1 ∧ p1 ≤ 2147483647) (p2 : Int) (h_p2 : (-2147483648) ≤ p2 ∧ p2 ≤ 2147483647) (p3 : Int) (h_p3 : (-2147483648) ≤ p3 ∧ p3 ≤ 2147483647)  : GO (am_XX L xs sio) (d) 49 0 [some (.inl p1), some (.inl p2), some (.inl p3)] [] (SH, dt) (fun r w2 => w2 = (SH, dt) ∧ ((∃ v : Int, r = some (.inl v) ∧ True ∧ True))) := by
  have r1 := wr_RR p1
  refine go_toq PM49 (k := 1) (pc' := 1) (L' := [some (.inl p1), some (.inl p2), some (.inl p3)]) (st' := [.inl p1]) (w' := (SH, dt)) rfl ?_
  have e3 : wr p1 = p1 := wr_R ⟨by omega, by omega⟩
  by_cases c2 : wr p1 < (-10) ∨ (-1) < wr p1
  · refine go_swoq PM49 (p1 := 121) (lo := (-10)) (hi := (-1)) rfl rfl c2 ?_
    refine go_retq PM49 (k := 1) (r := some (.inl 0)) (w1 := (SH, dt)) rfl ?_
    exact ⟨rfl, ⟨_, rfl, trivial, trivial⟩⟩
  · have c4 : wr p1 = (-10) ∨ wr p1 = (-9) ∨ wr p1 = (-8) ∨ wr p1 = (-7) ∨ wr p1 = (-6) ∨ wr p1 = (-5) ∨ wr p1 = (-4) ∨ wr p1 = (-3) ∨ wr p1 = (-2) ∨ wr p1 = (-1) := by omega
    rcases c4 with c4 | c4 | c4 | c4 | c4 | c4 | c4 | c4 | c4 | c4
    · refine go_swiq PM49 (v := (-10)) (p1 := 117) (lo := (-10)) (hi := (-1)) rfl c4 (by decide) rfl ?_
      have r5 : -2147483648 ≤ am_or p2 p3 ∧ am_or p2 p3 ≤ 2147483647 := am_or_R
      refine go_retq PM49 (k := 3) (r := some (.inl (am_or p2 p3))) (w1 := (SH, dt)) rfl ?_
      exact ⟨rfl, ⟨_, rfl, trivial, trivial⟩⟩
    · refine go_swiq PM49 (v := (-9)) (p1 := 113) (lo := (-10)) (hi := (-1)) rfl c4 (by decide) rfl ?_
      have r6 : -2147483648 ≤ am_and p2 p3 ∧ am_and p2 p3 ≤ 2147483647 := am_and_R
      refine go_retq PM49 (k := 3) (r := some (.inl (am_and p2 p3))) (w1 := (SH, dt)) rfl ?_
      exact ⟨rfl, ⟨_, rfl, trivial, trivial⟩⟩
    · refine go_swiq PM49 (v := (-8)) (p1 := 121) (lo := (-10)) (hi := (-1)) rfl c4 (by decide) rfl ?_
      refine go_retq PM49 (k := 1) (r := some (.inl 0)) (w1 := (SH, dt)) rfl ?_
      exact ⟨rfl, ⟨_, rfl, trivial, trivial⟩⟩
    · refine go_swiq PM49 (v := (-7)) (p1 := 102) (lo := (-10)) (hi := (-1)) rfl c4 (by decide) rfl ?_
      refine go_ifq PM49 (k := 2) (p1 := 111) (p2 := 107) (L' := [some (.inl p1), some (.inl p2), some (.inl p3)]) (st' := []) (w' := (SH, dt)) rfl (c_le (a := p2) (b := p3) (by first | exact bnd h_p2 (by decide) (by decide) | exact ⟨by fail, by fail⟩) (by first | exact bnd h_p3 (by decide) (by decide) | exact ⟨by fail, by fail⟩)) (fun c8 => ?_) (fun c8 => ?_)
      · skip
        refine go_retq PM49 (k := 1) (r := some (.inl 0)) (w1 := (SH, dt)) rfl ?_
        exact ⟨rfl, ⟨_, rfl, trivial, trivial⟩⟩
      · skip
        refine go_retq PM49 (k := 2) (r := some (.inl 1)) (w1 := (SH, dt)) rfl ?_
        exact ⟨rfl, ⟨_, rfl, trivial, trivial⟩⟩
    · refine go_swiq PM49 (v := (-6)) (p1 := 91) (lo := (-10)) (hi := (-1)) rfl c4 (by decide) rfl ?_
      refine go_ifq PM49 (k := 2) (p1 := 100) (p2 := 96) (L' := [some (.inl p1), some (.inl p2), some (.inl p3)]) (st' := []) (w' := (SH, dt)) rfl (c_ne (a := p2) (b := p3) (by first | exact bnd h_p2 (by decide) (by decide) | exact ⟨by fail, by fail⟩) (by first | exact bnd h_p3 (by decide) (by decide) | exact ⟨by fail, by fail⟩)) (fun c10 => ?_) (fun c10 => ?_)
      · skip
        replace c10 := hid c10
        refine go_retq PM49 (k := 1) (r := some (.inl 0)) (w1 := (SH, dt)) rfl ?_
        exact ⟨rfl, ⟨_, rfl, trivial, trivial⟩⟩
      · skip
        refine go_retq PM49 (k := 2) (r := some (.inl 1)) (w1 := (SH, dt)) rfl ?_
        exact ⟨rfl, ⟨_, rfl, trivial, trivial⟩⟩
    · refine go_swiq PM49 (v := (-5)) (p1 := 80) (lo := (-10)) (hi := (-1)) rfl c4 (by decide) rfl ?_
      refine go_ifq PM49 (k := 2) (p1 := 89) (p2 := 85) (L' := [some (.inl p1), some (.inl p2), some (.inl p3)]) (st' := []) (w' := (SH, dt)) rfl (c_ge (a := p2) (b := p3) (by first | exact bnd h_p2 (by decide) (by decide) | exact ⟨by fail, by fail⟩) (by first | exact bnd h_p3 (by decide) (by decide) | exact ⟨by fail, by fail⟩)) (fun c12 => ?_) (fun c12 => ?_)
      · skip
        refine go_retq PM49 (k := 1) (r := some (.inl 0)) (w1 := (SH, dt)) rfl ?_
        exact ⟨rfl, ⟨_, rfl, trivial, trivial⟩⟩
      · skip
        refine go_retq PM49 (k := 2) (r := some (.inl 1)) (w1 := (SH, dt)) rfl ?_
        exact ⟨rfl, ⟨_, rfl, trivial, trivial⟩⟩
    · refine go_swiq PM49 (v := (-4)) (p1 := 68) (lo := (-10)) (hi := (-1)) rfl c4 (by decide) rfl ?_
      refine go_ifq PM49 (k := 1) (p1 := 78) (p2 := 72) (L' := [some (.inl p1), some (.inl p2), some (.inl p3)]) (st' := []) (w' := (SH, dt)) rfl (z_le (a := p3) (by first | exact bnd h_p3 (by decide) (by decide) | exact ⟨by fail, by fail⟩)) (fun c14 => ?_) (fun c14 => ?_)
      · skip
        refine go_retq PM49 (k := 1) (r := some (.inl 0)) (w1 := (SH, dt)) rfl ?_
        exact ⟨rfl, ⟨_, rfl, trivial, trivial⟩⟩
      · skip
        refine go_toq PM49 (k := 2) (pc' := 74) (L' := [some (.inl p1), some (.inl p2), some (.inl p3)]) (st' := [.inl p3, .inl p2]) (w' := (SH, dt)) rfl ?_
        refine go_smpq PM49 (L' := [some (.inl p1), some (.inl p2), some (.inl p3)]) (st' := [.inl ((wr p2).tdiv (wr p3))]) (w' := (SH, dt)) rfl rfl (s_idiv (by rw [wr_R ⟨by omega, by omega⟩]; omega)) ?_
        refine go_retq PM49 (k := 1) (r := some (.inl ((wr p2).tdiv (wr p3)))) (w1 := (SH, dt)) rfl ?_
        exact ⟨rfl, ⟨_, rfl, trivial, trivial⟩⟩
    · refine go_swiq PM49 (v := (-3)) (p1 := 64) (lo := (-10)) (hi := (-1)) rfl c4 (by decide) rfl ?_
      refine go_retq PM49 (k := 3) (r := some (.inl (p2 * p3))) (w1 := (SH, dt)) rfl ?_
      exact ⟨rfl, ⟨_, rfl, trivial, trivial⟩⟩
    · refine go_swiq PM49 (v := (-2)) (p1 := 60) (lo := (-10)) (hi := (-1)) rfl c4 (by decide) rfl ?_
      refine go_retq PM49 (k := 3) (r := some (.inl (p2 - p3))) (w1 := (SH, dt)) rfl ?_
      exact ⟨rfl, ⟨_, rfl, trivial, trivial⟩⟩
    · refine go_swiq PM49 (v := (-1)) (p1 := 56) (lo := (-10)) (hi := (-1)) rfl c4 (by decide) rfl ?_
      refine go_retq PM49 (k := 3) (r := some (.inl (p2 + p3))) (w1 := (SH, dt)) rfl ?_
      exact ⟨rfl, ⟨_, rfl, trivial, trivial⟩⟩
theorem sp_X3_run (L : Nat) (xs : Nat → Int32) (sio : Option Nat) (d : Nat) (dt : Nat → Nat → Int) (hI : InvC dt)  (p2 : Int) (h_p2 : 0 ≤ p2 ∧ p2 ≤ 3) (p3 : Int) (h_p3 : (-2147483648) ≤ p3 ∧ p3 ≤ 2147483647) (p4 : Int) (h_p4 : (-2147483648) ≤ p4 ∧ p4 ≤ 2147483647)  : GO (am_XX L xs sio) (d + 1) 48 0 [some (.inr (.inr (some 71))), some (.inr (.inr (some 6))), some (.inl p2), some (.inl p3), some (.inl p4), none, none, none, none] [] (SH, dt) (fun r w2 => ∃ dt2 : Nat → Nat → Int, w2 = (SH, dt2) ∧ InvC dt2 ∧ Fr [74] dt dt2 ∧ ((∃ v : Int, r = some (.inl v) ∧ ((-2147483648) ≤ v ∧ v ≤ 2147483647) ∧ True))) := by
  have hF : Fr [74] dt dt := Fr_refl
  refine go_toq PM48 (k := 4) (pc' := 6) (L' := [some (.inr (.inr (some 71))), some (.inr (.inr (some 6))), some (.inl p2), some (.inl p3), some (.inl p4), some (.inl (-1)), some (.inl p3), none, none]) (st' := []) (w' := (SH, dt)) rfl ?_
  have loop1265 : ∀ (k_ : Nat) (l6_5 : Int) (l6_6 : Int) (dt1260 : Nat → Nat → Int) (hI1261 : InvC dt1260) (hF1262 : Fr [74] dt dt1260) (i1263 : (-1) ≤ l6_5 ∧ l6_5 ≤ 63) (i1264 : (-2147483648) ≤ l6_6 ∧ l6_6 ≤ 2147483647), (2147483648 - l6_6).toNat < k_ → GO (am_XX L xs sio) (d + 1) 48 6 [some (.inr (.inr (some 71))), some (.inr (.inr (some 6))), some (.inl p2), none, some (.inl p4), some (.inl l6_5), some (.inl l6_6), none, none] [] (SH, dt1260) (fun r w2 => ∃ dt2 : Nat → Nat → Int, w2 = (SH, dt2) ∧ InvC dt2 ∧ Fr [74] dt dt2 ∧ ((∃ v : Int, r = some (.inl v) ∧ ((-2147483648) ≤ v ∧ v ≤ 2147483647) ∧ True))) := by
    intro k_
    induction k_ with
    | zero => intro l6_5 l6_6 dt1260 hI1261 hF1262 i1263 i1264 hm; exact absurd hm (Nat.not_lt_zero _)
    | succ k_ ih_loop1265 =>
      intro l6_5 l6_6 dt1260 hI1261 hF1262 i1263 i1264 hm
      have j1306 :  GO (am_XX L xs sio) (d + 1) 48 203 [some (.inr (.inr (some 71))), some (.inr (.inr (some 6))), none, none, none, some (.inl l6_5), none, none, none] [] (SH, dt1260) (fun r w2 => ∃ dt2 : Nat → Nat → Int, w2 = (SH, dt2) ∧ InvC dt2 ∧ Fr [74] dt dt2 ∧ ((∃ v : Int, r = some (.inl v) ∧ ((-2147483648) ≤ v ∧ v ≤ 2147483647) ∧ True))) := by
        skip
        refine go_ifq PM48 (k := 1) (p1 := 218) (p2 := 208) (L' := [some (.inr (.inr (some 71))), some (.inr (.inr (some 6))), none, none, none, some (.inl l6_5), none, none, none]) (st' := []) (w' := (SH, dt1260)) rfl (z_lt (a := l6_5) (by first | exact bnd i1263 (by decide) (by decide) | exact ⟨by fail, by fail⟩)) (fun c1309 => ?_) (fun c1309 => ?_)
        · skip
          refine go_retq PM48 (k := 1) (r := some (.inl 0)) (w1 := (SH, dt1260)) rfl ?_
          exact ⟨dt1260, rfl, hI1261, hF1262, ⟨_, rfl, ⟨by decide, by decide⟩, trivial⟩⟩
        · skip
          refine go_toq PM48 (k := 3) (pc' := 214) (L' := [some (.inr (.inr (some 71))), some (.inr (.inr (some 6))), none, none, none, some (.inl l6_5), none, none, none]) (st' := [.inl l6_5, .inr (.inr (some 74))]) (w' := (SH, dt1260)) rfl ?_
          have r1310 : (-2147483648) ≤ dt1260 74 (l6_5).toNat ∧ dt1260 74 (l6_5).toNat ≤ 2147483647 := InvC_get hI1261 74 (l6_5).toNat rfl rfl
          refine go_smpq PM48 (L' := [some (.inr (.inr (some 71))), some (.inr (.inr (some 6))), none, none, none, some (.inl l6_5), none, none, none]) (st' := [.inl (dt1260 74 (l6_5).toNat)]) (w' := (SH, dt1260)) rfl rfl (s_iald (n := 64) (f := dt1260 74) rfl (by first | exact bndx i1263 (by decide) (by decide) | exact ⟨by omega, by omega⟩)) ?_
          refine go_retq PM48 (k := 1) (r := some (.inl (dt1260 74 (l6_5).toNat))) (w1 := (SH, dt1260)) rfl ?_
          exact ⟨dt1260, rfl, hI1261, hF1262, ⟨_, rfl, (by first | exact bnd r1310 (by decide) (by decide) | exact ⟨by fail, by fail⟩), trivial⟩⟩
      refine go_ifq PM48 (k := 2) (p1 := 203) (p2 := 13) (L' := [some (.inr (.inr (some 71))), some (.inr (.inr (some 6))), some (.inl p2), none, some (.inl p4), some (.inl l6_5), some (.inl l6_6), none, none]) (st' := []) (w' := (SH, dt1260)) rfl (c_ge (a := l6_6) (b := p4) (by first | exact bnd i1264 (by decide) (by decide) | exact ⟨by fail, by fail⟩) (by first | exact bnd h_p4 (by decide) (by decide) | exact ⟨by fail, by fail⟩)) (fun c1311 => ?_) (fun c1311 => ?_)
      · skip
        exact GO.le (j1306 ) ⟨.inl rfl, .inl rfl, .inr ⟨rfl, trivial⟩, .inl rfl, .inr ⟨rfl, trivial⟩, .inl rfl, .inr ⟨rfl, trivial⟩, .inl rfl, .inl rfl, trivial⟩
      · skip
        refine go_ifq PM48 (k := 2) (p1 := 203) (p2 := 21) (L' := [some (.inr (.inr (some 71))), some (.inr (.inr (some 6))), some (.inl p2), none, some (.inl p4), some (.inl l6_5), some (.inl l6_6), none, none]) (st' := []) (w' := (SH, dt1260)) rfl (c_ge (a := l6_6) (b := 500) (by first | exact bnd i1264 (by decide) (by decide) | exact bndd i1264 c1311 (by decide) (by decide) | exact ⟨by fail, by fail⟩) ⟨by decide, by decide⟩) (fun c1312 => ?_) (fun c1312 => ?_)
        · skip
          exact GO.le (j1306 ) ⟨.inl rfl, .inl rfl, .inr ⟨rfl, trivial⟩, .inl rfl, .inr ⟨rfl, trivial⟩, .inl rfl, .inr ⟨rfl, trivial⟩, .inl rfl, .inl rfl, trivial⟩
        · skip
          refine go_ifq PM48 (k := 1) (p1 := 52) (p2 := 26) (L' := [some (.inr (.inr (some 71))), some (.inr (.inr (some 6))), some (.inl p2), none, some (.inl p4), some (.inl l6_5), some (.inl l6_6), none, none]) (st' := []) (w' := (SH, dt1260)) rfl (z_lt (a := l6_6) (by first | exact bnd i1264 (by decide) (by decide) | exact bndd i1264 c1312 (by decide) (by decide) | exact ⟨by fail, by fail⟩)) (fun c1316 => ?_) (fun c1316 => ?_)
          · skip
            have j1324 : ∀ (j1324_a5 : Int) (j1324_d : Nat → Nat → Int) (j1324_hI : InvC j1324_d) (j1324_hF : Fr [74] dt j1324_d) (i1325 : 0 ≤ j1324_a5 ∧ j1324_a5 ≤ 63) (i1326 : l6_5 + 0 ≤ j1324_a5 ∧ j1324_a5 ≤ l6_5 + 1), GO (am_XX L xs sio) (d + 1) 48 124 [some (.inr (.inr (some 71))), some (.inr (.inr (some 6))), some (.inl p2), none, some (.inl p4), some (.inl j1324_a5), some (.inl l6_6), none, none] [] (SH, j1324_d) (fun r w2 => ∃ dt2 : Nat → Nat → Int, w2 = (SH, dt2) ∧ InvC dt2 ∧ Fr [74] dt dt2 ∧ ((∃ v : Int, r = some (.inl v) ∧ ((-2147483648) ≤ v ∧ v ≤ 2147483647) ∧ True))) := by
              intro j1324_a5 j1324_d j1324_hI j1324_hF i1325 i1326
              refine go_toq PM48 (k := 3) (pc' := 6) (L' := [some (.inr (.inr (some 71))), some (.inr (.inr (some 6))), some (.inl p2), none, some (.inl p4), some (.inl j1324_a5), some (.inl (l6_6 + 1)), none, none]) (st' := []) (w' := (SH, j1324_d)) rfl ?_
              exact GO.le (ih_loop1265 j1324_a5 (l6_6 + 1) j1324_d j1324_hI j1324_hF (by first | exact bnd i1325 (by decide) (by decide) | fail) (by first | exact bndp i1264 (by decide) (by decide) | exact bnde i1264 c1312 (by decide) (by decide) | fail) (by omega)) ⟨.inl rfl, .inl rfl, .inl rfl, .inl rfl, .inl rfl, .inl rfl, .inl rfl, .inl rfl, .inl rfl, trivial⟩
            refine go_ifq PM48 (k := 14) (p1 := 124) (p2 := 86) (L' := [some (.inr (.inr (some 71))), some (.inr (.inr (some 6))), some (.inl p2), none, some (.inl p4), some (.inl l6_5), some (.inl l6_6), some (.inl 0), some (.inl (-11))]) (st' := []) (w' := (SH, dt1260)) rfl (c_ge (a := l6_5 + 1) (b := 64) (by first | exact bndp i1263 (by decide) (by decide) | exact ⟨by fail, by fail⟩) ⟨by decide, by decide⟩) (fun c1327 => ?_) (fun c1327 => ?_)
            · skip
              exact GO.le (j1324 l6_5 dt1260 hI1261 hF1262 (by first | exact bnd i1263 (by decide) (by decide) | omega) (by omega)) ⟨.inl rfl, .inl rfl, .inl rfl, .inl rfl, .inl rfl, .inl rfl, .inl rfl, .inr ⟨rfl, trivial⟩, .inr ⟨rfl, trivial⟩, trivial⟩
            · skip
              refine go_toq PM48 (k := 8) (pc' := 123) (L' := [some (.inr (.inr (some 71))), some (.inr (.inr (some 6))), some (.inl p2), none, some (.inl p4), some (.inl (l6_5 + 1)), some (.inl l6_6), some (.inl 0), some (.inl (-11))]) (st' := [.inl 0, .inl (l6_5 + 1), .inr (.inr (some 74))]) (w' := (SH, dt1260)) rfl ?_
              have hI1328 : InvC (u2 dt1260 74 ((l6_5 + 1).toNat) 0) := InvC_u2 hI1261 (lo := -2147483648) (hi := 2147483647) rfl rfl rfl (by decide) (by decide)
              have hF1329 : Fr [74] dt (u2 dt1260 74 ((l6_5 + 1).toNat) 0) := Fr_u2 hF1262 (by decide)
              refine go_smpq PM48 (L' := [some (.inr (.inr (some 71))), some (.inr (.inr (some 6))), some (.inl p2), none, some (.inl p4), some (.inl (l6_5 + 1)), some (.inl l6_6), some (.inl 0), some (.inl (-11))]) (st' := []) (w' := (SH, (u2 dt1260 74 ((l6_5 + 1).toNat) 0))) rfl rfl (s_iast (n := 64) rfl ⟨by omega, by omega⟩ ⟨by decide, by decide⟩) ?_
              exact GO.le (j1324 (l6_5 + 1) (u2 dt1260 74 ((l6_5 + 1).toNat) 0) hI1328 hF1329 (by first | exact bndp i1263 (by decide) (by decide) | omega) (by omega)) ⟨.inl rfl, .inl rfl, .inl rfl, .inl rfl, .inl rfl, .inl rfl, .inl rfl, .inr ⟨rfl, trivial⟩, .inr ⟨rfl, trivial⟩, trivial⟩
          · skip
            refine go_ifq PM48 (k := 7) (p1 := 52) (p2 := 39) (L' := [some (.inr (.inr (some 71))), some (.inr (.inr (some 6))), some (.inl p2), none, some (.inl p4), some (.inl l6_5), some (.inl l6_6), none, none]) (st' := []) (w' := (SH, dt1260)) rfl (c_ge (a := (p2 * 500) + l6_6) (b := 2000) ⟨by omega, by omega⟩ ⟨by decide, by decide⟩) (fun c1332 => ?_) (fun c1332 => ?_)
            · exfalso; omega
            · skip
              refine go_toq PM48 (k := 6) (pc' := 48) (L' := [some (.inr (.inr (some 71))), some (.inr (.inr (some 6))), some (.inl p2), none, some (.inl p4), some (.inl l6_5), some (.inl l6_6), none, none]) (st' := [.inl ((p2 * 500) + l6_6), .inr (.inr (some 6))]) (w' := (SH, dt1260)) rfl ?_
              have r1333 : (-2147483648) ≤ dt1260 6 (((p2 * 500) + l6_6).toNat) ∧ dt1260 6 (((p2 * 500) + l6_6).toNat) ≤ 2147483647 := InvC_get hI1261 6 (((p2 * 500) + l6_6).toNat) rfl rfl
              refine go_smpq PM48 (L' := [some (.inr (.inr (some 71))), some (.inr (.inr (some 6))), some (.inl p2), none, some (.inl p4), some (.inl l6_5), some (.inl l6_6), none, none]) (st' := [.inl (dt1260 6 (((p2 * 500) + l6_6).toNat))]) (w' := (SH, dt1260)) rfl rfl (s_iald (n := 2000) (f := dt1260 6) rfl ⟨by omega, by omega⟩) ?_
              have j1364 : ∀ (j1364_a5 : Int) (j1364_d : Nat → Nat → Int) (j1364_hI : InvC j1364_d) (j1364_hF : Fr [74] dt j1364_d) (i1365 : (-1) ≤ j1364_a5 ∧ j1364_a5 ≤ 63), GO (am_XX L xs sio) (d + 1) 48 197 [some (.inr (.inr (some 71))), some (.inr (.inr (some 6))), some (.inl p2), none, some (.inl p4), some (.inl j1364_a5), some (.inl l6_6), none, none] [] (SH, j1364_d) (fun r w2 => ∃ dt2 : Nat → Nat → Int, w2 = (SH, dt2) ∧ InvC dt2 ∧ Fr [74] dt dt2 ∧ ((∃ v : Int, r = some (.inl v) ∧ ((-2147483648) ≤ v ∧ v ≤ 2147483647) ∧ True))) := by
                intro j1364_a5 j1364_d j1364_hI j1364_hF i1365
                refine go_toq PM48 (k := 2) (pc' := 6) (L' := [some (.inr (.inr (some 71))), some (.inr (.inr (some 6))), some (.inl p2), none, some (.inl p4), some (.inl j1364_a5), some (.inl (l6_6 + 1)), none, none]) (st' := []) (w' := (SH, j1364_d)) rfl ?_
                exact GO.le (ih_loop1265 j1364_a5 (l6_6 + 1) j1364_d j1364_hI j1364_hF (by first | exact bnd i1365 (by decide) (by decide) | fail) (by first | exact bndp i1264 (by decide) (by decide) | exact bnde i1264 c1312 (by decide) (by decide) | fail) (by omega)) ⟨.inl rfl, .inl rfl, .inl rfl, .inl rfl, .inl rfl, .inl rfl, .inl rfl, .inl rfl, .inl rfl, trivial⟩
              refine go_ifq PM48 (k := 3) (p1 := 67) (p2 := 60) (L' := [some (.inr (.inr (some 71))), some (.inr (.inr (some 6))), some (.inl p2), none, some (.inl p4), some (.inl l6_5), some (.inl l6_6), some (.inl (dt1260 6 (((p2 * 500) + l6_6).toNat))), none]) (st' := []) (w' := (SH, dt1260)) rfl (z_ge (a := dt1260 6 (((p2 * 500) + l6_6).toNat)) (by first | exact bnd r1333 (by decide) (by decide) | exact ⟨by fail, by fail⟩)) (fun c1366 => ?_) (fun c1366 => ?_)
              · skip
                have j1371 : ∀ (j1371_a5 : Int) (j1371_d : Nat → Nat → Int) (j1371_hI : InvC j1371_d) (j1371_hF : Fr [74] dt j1371_d) (i1372 : 0 ≤ j1371_a5 ∧ j1371_a5 ≤ 63) (i1373 : l6_5 + 0 ≤ j1371_a5 ∧ j1371_a5 ≤ l6_5 + 1), GO (am_XX L xs sio) (d + 1) 48 124 [some (.inr (.inr (some 71))), some (.inr (.inr (some 6))), some (.inl p2), none, some (.inl p4), some (.inl j1371_a5), some (.inl l6_6), none, none] [] (SH, j1371_d) (fun r w2 => ∃ dt2 : Nat → Nat → Int, w2 = (SH, dt2) ∧ InvC dt2 ∧ Fr [74] dt dt2 ∧ ((∃ v : Int, r = some (.inl v) ∧ ((-2147483648) ≤ v ∧ v ≤ 2147483647) ∧ True))) := by
                  intro j1371_a5 j1371_d j1371_hI j1371_hF i1372 i1373
                  refine go_toq PM48 (k := 1) (pc' := 197) (L' := [some (.inr (.inr (some 71))), some (.inr (.inr (some 6))), some (.inl p2), none, some (.inl p4), some (.inl j1371_a5), some (.inl l6_6), none, none]) (st' := []) (w' := (SH, j1371_d)) rfl ?_
                  exact GO.le (j1364 j1371_a5 j1371_d j1371_hI j1371_hF (by first | exact bnd i1372 (by decide) (by decide) | fail)) ⟨.inl rfl, .inl rfl, .inl rfl, .inl rfl, .inl rfl, .inl rfl, .inl rfl, .inl rfl, .inl rfl, trivial⟩
                refine go_ifq PM48 (k := 10) (p1 := 124) (p2 := 86) (L' := [some (.inr (.inr (some 71))), some (.inr (.inr (some 6))), some (.inl p2), none, some (.inl p4), some (.inl l6_5), some (.inl l6_6), some (.inl (dt1260 6 (((p2 * 500) + l6_6).toNat))), some (.inl ((-11) - (dt1260 6 (((p2 * 500) + l6_6).toNat))))]) (st' := []) (w' := (SH, dt1260)) rfl (c_ge (a := l6_5 + 1) (b := 64) (by first | exact bndp i1263 (by decide) (by decide) | exact ⟨by fail, by fail⟩) ⟨by decide, by decide⟩) (fun c1374 => ?_) (fun c1374 => ?_)
                · skip
                  exact GO.le (j1371 l6_5 dt1260 hI1261 hF1262 (by first | exact bnd i1263 (by decide) (by decide) | omega) (by omega)) ⟨.inl rfl, .inl rfl, .inl rfl, .inl rfl, .inl rfl, .inl rfl, .inl rfl, .inr ⟨rfl, trivial⟩, .inr ⟨rfl, trivial⟩, trivial⟩
                · skip
                  refine go_ifq PM48 (k := 5) (p1 := 105) (p2 := 100) (L' := [some (.inr (.inr (some 71))), some (.inr (.inr (some 6))), some (.inl p2), none, some (.inl p4), some (.inl (l6_5 + 1)), some (.inl l6_6), some (.inl (dt1260 6 (((p2 * 500) + l6_6).toNat))), some (.inl ((-11) - (dt1260 6 (((p2 * 500) + l6_6).toNat))))]) (st' := [.inl (l6_5 + 1), .inr (.inr (some 74))]) (w' := (SH, dt1260)) rfl (z_lt (a := dt1260 6 (((p2 * 500) + l6_6).toNat)) (by first | exact bnd r1333 (by decide) (by decide) | exact ⟨by fail, by fail⟩)) (fun c1376 => ?_) (fun c1376 => ?_)
                  · exfalso; omega
                  · skip
                    refine go_toq PM48 (k := 2) (pc' := 123) (L' := [some (.inr (.inr (some 71))), some (.inr (.inr (some 6))), some (.inl p2), none, some (.inl p4), some (.inl (l6_5 + 1)), some (.inl l6_6), some (.inl (dt1260 6 (((p2 * 500) + l6_6).toNat))), some (.inl ((-11) - (dt1260 6 (((p2 * 500) + l6_6).toNat))))]) (st' := [.inl (dt1260 6 (((p2 * 500) + l6_6).toNat)), .inl (l6_5 + 1), .inr (.inr (some 74))]) (w' := (SH, dt1260)) rfl ?_
                    have hI1377 : InvC (u2 dt1260 74 ((l6_5 + 1).toNat) (dt1260 6 (((p2 * 500) + l6_6).toNat))) := InvC_u2 hI1261 (lo := -2147483648) (hi := 2147483647) rfl rfl rfl (by first | exact bnd1 r1333 (by decide) | fail) (by first | exact bnd2 r1333 (by decide) | fail)
                    have hF1378 : Fr [74] dt (u2 dt1260 74 ((l6_5 + 1).toNat) (dt1260 6 (((p2 * 500) + l6_6).toNat))) := Fr_u2 hF1262 (by decide)
                    refine go_smpq PM48 (L' := [some (.inr (.inr (some 71))), some (.inr (.inr (some 6))), some (.inl p2), none, some (.inl p4), some (.inl (l6_5 + 1)), some (.inl l6_6), some (.inl (dt1260 6 (((p2 * 500) + l6_6).toNat))), some (.inl ((-11) - (dt1260 6 (((p2 * 500) + l6_6).toNat))))]) (st' := []) (w' := (SH, (u2 dt1260 74 ((l6_5 + 1).toNat) (dt1260 6 (((p2 * 500) + l6_6).toNat))))) rfl rfl (s_iast (n := 64) rfl ⟨by omega, by omega⟩ (by first | exact bnd r1333 (by decide) (by decide) | exact ⟨by fail, by fail⟩)) ?_
                    exact GO.le (j1371 (l6_5 + 1) (u2 dt1260 74 ((l6_5 + 1).toNat) (dt1260 6 (((p2 * 500) + l6_6).toNat))) hI1377 hF1378 (by first | exact bndp i1263 (by decide) (by decide) | omega) (by omega)) ⟨.inl rfl, .inl rfl, .inl rfl, .inl rfl, .inl rfl, .inl rfl, .inl rfl, .inr ⟨rfl, trivial⟩, .inr ⟨rfl, trivial⟩, trivial⟩
              · skip
                refine go_ifq PM48 (k := 2) (p1 := 127) (p2 := 67) (L' := [some (.inr (.inr (some 71))), some (.inr (.inr (some 6))), some (.inl p2), none, some (.inl p4), some (.inl l6_5), some (.inl l6_6), some (.inl (dt1260 6 (((p2 * 500) + l6_6).toNat))), none]) (st' := []) (w' := (SH, dt1260)) rfl (c_gt (a := dt1260 6 (((p2 * 500) + l6_6).toNat)) (b := (-11)) (by first | exact bnd r1333 (by decide) (by decide) | exact ⟨by fail, by fail⟩) ⟨by decide, by decide⟩) (fun c1379 => ?_) (fun c1379 => ?_)
                · skip
                  refine go_ifq PM48 (k := 2) (p1 := 158) (p2 := 134) (L' := [some (.inr (.inr (some 71))), some (.inr (.inr (some 6))), some (.inl p2), none, some (.inl p4), some (.inl l6_5), some (.inl l6_6), some (.inl (dt1260 6 (((p2 * 500) + l6_6).toNat))), none]) (st' := []) (w' := (SH, dt1260)) rfl (c_ne (a := dt1260 6 (((p2 * 500) + l6_6).toNat)) (b := (-8)) (by first | exact bnd r1333 (by decide) (by decide) | exact ⟨by fail, by fail⟩) ⟨by decide, by decide⟩) (fun c1380 => ?_) (fun c1380 => ?_)
                  · skip
                    replace c1380 := hid c1380
                    refine go_ifq PM48 (k := 2) (p1 := 197) (p2 := 164) (L' := [some (.inr (.inr (some 71))), some (.inr (.inr (some 6))), some (.inl p2), none, some (.inl p4), some (.inl l6_5), some (.inl l6_6), some (.inl (dt1260 6 (((p2 * 500) + l6_6).toNat))), none]) (st' := []) (w' := (SH, dt1260)) rfl (c_lt (a := l6_5) (b := 1) (by first | exact bnd i1263 (by decide) (by decide) | exact ⟨by fail, by fail⟩) ⟨by decide, by decide⟩) (fun c1381 => ?_) (fun c1381 => ?_)
                    · skip
                      exact GO.le (j1364 l6_5 dt1260 hI1261 hF1262 (by first | exact bnd i1263 (by decide) (by decide) | fail)) ⟨.inl rfl, .inl rfl, .inl rfl, .inl rfl, .inl rfl, .inl rfl, .inl rfl, .inr ⟨rfl, trivial⟩, .inl rfl, trivial⟩
                    · skip
                      refine go_toq PM48 (k := 11) (pc' := 182) (L' := [some (.inr (.inr (some 71))), some (.inr (.inr (some 6))), some (.inl p2), none, some (.inl p4), some (.inl l6_5), some (.inl l6_6), some (.inl (dt1260 6 (((p2 * 500) + l6_6).toNat))), none]) (st' := [.inl (l6_5 - 1), .inr (.inr (some 74)), .inl (dt1260 6 (((p2 * 500) + l6_6).toNat)), .inl (l6_5 - 1), .inr (.inr (some 74))]) (w' := (SH, dt1260)) rfl ?_
                      have r1382 : (-2147483648) ≤ dt1260 74 ((l6_5 - 1).toNat) ∧ dt1260 74 ((l6_5 - 1).toNat) ≤ 2147483647 := InvC_get hI1261 74 ((l6_5 - 1).toNat) rfl rfl
                      refine go_smpq PM48 (L' := [some (.inr (.inr (some 71))), some (.inr (.inr (some 6))), some (.inl p2), none, some (.inl p4), some (.inl l6_5), some (.inl l6_6), some (.inl (dt1260 6 (((p2 * 500) + l6_6).toNat))), none]) (st' := [.inl (dt1260 74 ((l6_5 - 1).toNat)), .inl (dt1260 6 (((p2 * 500) + l6_6).toNat)), .inl (l6_5 - 1), .inr (.inr (some 74))]) (w' := (SH, dt1260)) rfl rfl (s_iald (n := 64) (f := dt1260 74) rfl ⟨by omega, by omega⟩) ?_
                      refine go_toq PM48 (k := 3) (pc' := 189) (L' := [some (.inr (.inr (some 71))), some (.inr (.inr (some 6))), some (.inl p2), none, some (.inl p4), some (.inl l6_5), some (.inl l6_6), some (.inl (dt1260 6 (((p2 * 500) + l6_6).toNat))), none]) (st' := [.inl l6_5, .inr (.inr (some 74)), .inl (dt1260 74 ((l6_5 - 1).toNat)), .inl (dt1260 6 (((p2 * 500) + l6_6).toNat)), .inl (l6_5 - 1), .inr (.inr (some 74))]) (w' := (SH, dt1260)) rfl ?_
                      have r1383 : (-2147483648) ≤ dt1260 74 (l6_5).toNat ∧ dt1260 74 (l6_5).toNat ≤ 2147483647 := InvC_get hI1261 74 (l6_5).toNat rfl rfl
                      refine go_smpq PM48 (L' := [some (.inr (.inr (some 71))), some (.inr (.inr (some 6))), some (.inl p2), none, some (.inl p4), some (.inl l6_5), some (.inl l6_6), some (.inl (dt1260 6 (((p2 * 500) + l6_6).toNat))), none]) (st' := [.inl (dt1260 74 (l6_5).toNat), .inl (dt1260 74 ((l6_5 - 1).toNat)), .inl (dt1260 6 (((p2 * 500) + l6_6).toNat)), .inl (l6_5 - 1), .inr (.inr (some 74))]) (w' := (SH, dt1260)) rfl rfl (s_iald (n := 64) (f := dt1260 74) rfl (by first | exact bndx i1263 (by decide) (by decide) | exact ⟨by omega, by omega⟩)) ?_
                      refine go_callq PM48 PM49 (Q' := _) rfl rfl rfl rfl (sp_X3_worked L xs sio (d + 0) dt1260 hI1261  (dt1260 6 (((p2 * 500) + l6_6).toNat)) (by first | exact bnd r1333 (by decide) (by decide) | exact ⟨by fail, by fail⟩) (dt1260 74 ((l6_5 - 1).toNat)) (by first | exact bnd r1382 (by decide) (by decide) | exact ⟨by fail, by fail⟩) (dt1260 74 (l6_5).toNat) (by first | exact bnd r1383 (by decide) (by decide) | exact ⟨by fail, by fail⟩) ) ?_
                      rintro _ _ ⟨rfl, h1384⟩
                      refine ⟨rfl, ?_⟩
                      rcases h1384 with ⟨v_h1384, rfl, h1384r, h1384⟩
                      have r1385 := wr_RR v_h1384
                      have hI1386 : InvC (u2 dt1260 74 ((l6_5 - 1).toNat) (wr v_h1384)) := InvC_u2 hI1261 (lo := -2147483648) (hi := 2147483647) rfl rfl rfl (by omega) (by omega)
                      have hF1387 : Fr [74] dt (u2 dt1260 74 ((l6_5 - 1).toNat) (wr v_h1384)) := Fr_u2 hF1262 (by decide)
                      refine go_smpq PM48 (L' := [some (.inr (.inr (some 71))), some (.inr (.inr (some 6))), some (.inl p2), none, some (.inl p4), some (.inl l6_5), some (.inl l6_6), some (.inl (dt1260 6 (((p2 * 500) + l6_6).toNat))), none]) (st' := []) (w' := (SH, (u2 dt1260 74 ((l6_5 - 1).toNat) (wr v_h1384)))) rfl rfl (s_iastw (n := 64) rfl ⟨by omega, by omega⟩) ?_
                      refine go_toq PM48 (k := 1) (pc' := 197) (L' := [some (.inr (.inr (some 71))), some (.inr (.inr (some 6))), some (.inl p2), none, some (.inl p4), some (.inl (l6_5 + (-1))), some (.inl l6_6), some (.inl (dt1260 6 (((p2 * 500) + l6_6).toNat))), none]) (st' := []) (w' := (SH, (u2 dt1260 74 ((l6_5 - 1).toNat) (wr v_h1384)))) rfl ?_
                      exact GO.le (j1364 (l6_5 + (-1)) (u2 dt1260 74 ((l6_5 - 1).toNat) (wr v_h1384)) hI1386 hF1387 (by omega)) ⟨.inl rfl, .inl rfl, .inl rfl, .inl rfl, .inl rfl, .inl rfl, .inl rfl, .inr ⟨rfl, trivial⟩, .inl rfl, trivial⟩
                  · skip
                    refine go_ifq PM48 (k := 1) (p1 := 158) (p2 := 139) (L' := [some (.inr (.inr (some 71))), some (.inr (.inr (some 6))), some (.inl p2), none, some (.inl p4), some (.inl l6_5), some (.inl l6_6), some (.inl (dt1260 6 (((p2 * 500) + l6_6).toNat))), none]) (st' := []) (w' := (SH, dt1260)) rfl (z_lt (a := l6_5) (by first | exact bnd i1263 (by decide) (by decide) | exact ⟨by fail, by fail⟩)) (fun c1388 => ?_) (fun c1388 => ?_)
                    · skip
                      refine go_ifq PM48 (k := 2) (p1 := 197) (p2 := 164) (L' := [some (.inr (.inr (some 71))), some (.inr (.inr (some 6))), some (.inl p2), none, some (.inl p4), some (.inl l6_5), some (.inl l6_6), some (.inl (dt1260 6 (((p2 * 500) + l6_6).toNat))), none]) (st' := []) (w' := (SH, dt1260)) rfl (c_lt (a := l6_5) (b := 1) (by first | exact bnd i1263 (by decide) (by decide) | exact ⟨by fail, by fail⟩) ⟨by decide, by decide⟩) (fun c1389 => ?_) (fun c1389 => ?_)
                      · skip
                        exact GO.le (j1364 l6_5 dt1260 hI1261 hF1262 (by first | exact bnd i1263 (by decide) (by decide) | fail)) ⟨.inl rfl, .inl rfl, .inl rfl, .inl rfl, .inl rfl, .inl rfl, .inl rfl, .inr ⟨rfl, trivial⟩, .inl rfl, trivial⟩
                      · exfalso; omega
                    · skip
                      refine go_toq PM48 (k := 7) (pc' := 152) (L' := [some (.inr (.inr (some 71))), some (.inr (.inr (some 6))), some (.inl p2), none, some (.inl p4), some (.inl l6_5), some (.inl l6_6), some (.inl (dt1260 6 (((p2 * 500) + l6_6).toNat))), none]) (st' := [.inl l6_5, .inr (.inr (some 74)), .inl 1, .inl l6_5, .inr (.inr (some 74))]) (w' := (SH, dt1260)) rfl ?_
                      have r1390 : (-2147483648) ≤ dt1260 74 (l6_5).toNat ∧ dt1260 74 (l6_5).toNat ≤ 2147483647 := InvC_get hI1261 74 (l6_5).toNat rfl rfl
                      refine go_smpq PM48 (L' := [some (.inr (.inr (some 71))), some (.inr (.inr (some 6))), some (.inl p2), none, some (.inl p4), some (.inl l6_5), some (.inl l6_6), some (.inl (dt1260 6 (((p2 * 500) + l6_6).toNat))), none]) (st' := [.inl (dt1260 74 (l6_5).toNat), .inl 1, .inl l6_5, .inr (.inr (some 74))]) (w' := (SH, dt1260)) rfl rfl (s_iald (n := 64) (f := dt1260 74) rfl (by first | exact bndx i1263 (by decide) (by decide) | exact ⟨by omega, by omega⟩)) ?_
                      refine go_toq PM48 (k := 1) (pc' := 154) (L' := [some (.inr (.inr (some 71))), some (.inr (.inr (some 6))), some (.inl p2), none, some (.inl p4), some (.inl l6_5), some (.inl l6_6), some (.inl (dt1260 6 (((p2 * 500) + l6_6).toNat))), none]) (st' := [.inl (1 - (dt1260 74 (l6_5).toNat)), .inl l6_5, .inr (.inr (some 74))]) (w' := (SH, dt1260)) rfl ?_
                      have r1391 := wr_RR (1 - (dt1260 74 (l6_5).toNat))
                      have hI1392 : InvC (u2 dt1260 74 (l6_5).toNat (wr (1 - (dt1260 74 (l6_5).toNat)))) := InvC_u2 hI1261 (lo := -2147483648) (hi := 2147483647) rfl rfl rfl (by omega) (by omega)
                      have hF1393 : Fr [74] dt (u2 dt1260 74 (l6_5).toNat (wr (1 - (dt1260 74 (l6_5).toNat)))) := Fr_u2 hF1262 (by decide)
                      refine go_smpq PM48 (L' := [some (.inr (.inr (some 71))), some (.inr (.inr (some 6))), some (.inl p2), none, some (.inl p4), some (.inl l6_5), some (.inl l6_6), some (.inl (dt1260 6 (((p2 * 500) + l6_6).toNat))), none]) (st' := []) (w' := (SH, (u2 dt1260 74 (l6_5).toNat (wr (1 - (dt1260 74 (l6_5).toNat)))))) rfl rfl (s_iastw (n := 64) rfl (by first | exact bndx i1263 (by decide) (by decide) | exact ⟨by omega, by omega⟩)) ?_
                      refine go_toq PM48 (k := 1) (pc' := 197) (L' := [some (.inr (.inr (some 71))), some (.inr (.inr (some 6))), some (.inl p2), none, some (.inl p4), some (.inl l6_5), some (.inl l6_6), some (.inl (dt1260 6 (((p2 * 500) + l6_6).toNat))), none]) (st' := []) (w' := (SH, (u2 dt1260 74 (l6_5).toNat (wr (1 - (dt1260 74 (l6_5).toNat)))))) rfl ?_
                      exact GO.le (j1364 l6_5 (u2 dt1260 74 (l6_5).toNat (wr (1 - (dt1260 74 (l6_5).toNat)))) hI1392 hF1393 (by first | exact bnd i1263 (by decide) (by decide) | fail)) ⟨.inl rfl, .inl rfl, .inl rfl, .inl rfl, .inl rfl, .inl rfl, .inl rfl, .inr ⟨rfl, trivial⟩, .inl rfl, trivial⟩
                · skip
                  have j1402 : ∀ (j1402_a5 : Int) (j1402_d : Nat → Nat → Int) (j1402_hI : InvC j1402_d) (j1402_hF : Fr [74] dt j1402_d) (i1403 : 0 ≤ j1402_a5 ∧ j1402_a5 ≤ 63) (i1404 : l6_5 + 0 ≤ j1402_a5 ∧ j1402_a5 ≤ l6_5 + 1), GO (am_XX L xs sio) (d + 1) 48 124 [some (.inr (.inr (some 71))), some (.inr (.inr (some 6))), some (.inl p2), none, some (.inl p4), some (.inl j1402_a5), some (.inl l6_6), none, none] [] (SH, j1402_d) (fun r w2 => ∃ dt2 : Nat → Nat → Int, w2 = (SH, dt2) ∧ InvC dt2 ∧ Fr [74] dt dt2 ∧ ((∃ v : Int, r = some (.inl v) ∧ ((-2147483648) ≤ v ∧ v ≤ 2147483647) ∧ True))) := by
                    intro j1402_a5 j1402_d j1402_hI j1402_hF i1403 i1404
                    refine go_toq PM48 (k := 1) (pc' := 197) (L' := [some (.inr (.inr (some 71))), some (.inr (.inr (some 6))), some (.inl p2), none, some (.inl p4), some (.inl j1402_a5), some (.inl l6_6), none, none]) (st' := []) (w' := (SH, j1402_d)) rfl ?_
                    exact GO.le (j1364 j1402_a5 j1402_d j1402_hI j1402_hF (by first | exact bnd i1403 (by decide) (by decide) | fail)) ⟨.inl rfl, .inl rfl, .inl rfl, .inl rfl, .inl rfl, .inl rfl, .inl rfl, .inl rfl, .inl rfl, trivial⟩
                  refine go_ifq PM48 (k := 10) (p1 := 124) (p2 := 86) (L' := [some (.inr (.inr (some 71))), some (.inr (.inr (some 6))), some (.inl p2), none, some (.inl p4), some (.inl l6_5), some (.inl l6_6), some (.inl (dt1260 6 (((p2 * 500) + l6_6).toNat))), some (.inl ((-11) - (dt1260 6 (((p2 * 500) + l6_6).toNat))))]) (st' := []) (w' := (SH, dt1260)) rfl (c_ge (a := l6_5 + 1) (b := 64) (by first | exact bndp i1263 (by decide) (by decide) | exact ⟨by fail, by fail⟩) ⟨by decide, by decide⟩) (fun c1405 => ?_) (fun c1405 => ?_)
                  · skip
                    exact GO.le (j1402 l6_5 dt1260 hI1261 hF1262 (by first | exact bnd i1263 (by decide) (by decide) | omega) (by omega)) ⟨.inl rfl, .inl rfl, .inl rfl, .inl rfl, .inl rfl, .inl rfl, .inl rfl, .inr ⟨rfl, trivial⟩, .inr ⟨rfl, trivial⟩, trivial⟩
                  · skip
                    refine go_ifq PM48 (k := 5) (p1 := 105) (p2 := 100) (L' := [some (.inr (.inr (some 71))), some (.inr (.inr (some 6))), some (.inl p2), none, some (.inl p4), some (.inl (l6_5 + 1)), some (.inl l6_6), some (.inl (dt1260 6 (((p2 * 500) + l6_6).toNat))), some (.inl ((-11) - (dt1260 6 (((p2 * 500) + l6_6).toNat))))]) (st' := [.inl (l6_5 + 1), .inr (.inr (some 74))]) (w' := (SH, dt1260)) rfl (z_lt (a := dt1260 6 (((p2 * 500) + l6_6).toNat)) (by first | exact bnd r1333 (by decide) (by decide) | exact ⟨by fail, by fail⟩)) (fun c1409 => ?_) (fun c1409 => ?_)
                    · skip
                      refine go_ifq PM48 (k := 2) (p1 := 122) (p2 := 112) (L' := [some (.inr (.inr (some 71))), some (.inr (.inr (some 6))), some (.inl p2), none, some (.inl p4), some (.inl (l6_5 + 1)), some (.inl l6_6), some (.inl (dt1260 6 (((p2 * 500) + l6_6).toNat))), some (.inl ((-11) - (dt1260 6 (((p2 * 500) + l6_6).toNat))))]) (st' := [.inl (l6_5 + 1), .inr (.inr (some 74))]) (w' := (SH, dt1260)) rfl (c_ge (a := (-11) - (dt1260 6 (((p2 * 500) + l6_6).toNat))) (b := 6) ⟨by omega, by omega⟩ ⟨by decide, by decide⟩) (fun c1412 => ?_) (fun c1412 => ?_)
                      · skip
                        refine go_toq PM48 (k := 1) (pc' := 123) (L' := [some (.inr (.inr (some 71))), some (.inr (.inr (some 6))), some (.inl p2), none, some (.inl p4), some (.inl (l6_5 + 1)), some (.inl l6_6), some (.inl (dt1260 6 (((p2 * 500) + l6_6).toNat))), some (.inl ((-11) - (dt1260 6 (((p2 * 500) + l6_6).toNat))))]) (st' := [.inl 0, .inl (l6_5 + 1), .inr (.inr (some 74))]) (w' := (SH, dt1260)) rfl ?_
                        have hI1413 : InvC (u2 dt1260 74 ((l6_5 + 1).toNat) 0) := InvC_u2 hI1261 (lo := -2147483648) (hi := 2147483647) rfl rfl rfl (by decide) (by decide)
                        have hF1414 : Fr [74] dt (u2 dt1260 74 ((l6_5 + 1).toNat) 0) := Fr_u2 hF1262 (by decide)
                        refine go_smpq PM48 (L' := [some (.inr (.inr (some 71))), some (.inr (.inr (some 6))), some (.inl p2), none, some (.inl p4), some (.inl (l6_5 + 1)), some (.inl l6_6), some (.inl (dt1260 6 (((p2 * 500) + l6_6).toNat))), some (.inl ((-11) - (dt1260 6 (((p2 * 500) + l6_6).toNat))))]) (st' := []) (w' := (SH, (u2 dt1260 74 ((l6_5 + 1).toNat) 0))) rfl rfl (s_iast (n := 64) rfl ⟨by omega, by omega⟩ ⟨by decide, by decide⟩) ?_
                        exact GO.le (j1402 (l6_5 + 1) (u2 dt1260 74 ((l6_5 + 1).toNat) 0) hI1413 hF1414 (by first | exact bndp i1263 (by decide) (by decide) | omega) (by omega)) ⟨.inl rfl, .inl rfl, .inl rfl, .inl rfl, .inl rfl, .inl rfl, .inl rfl, .inr ⟨rfl, trivial⟩, .inr ⟨rfl, trivial⟩, trivial⟩
                      · skip
                        refine go_toq PM48 (k := 3) (pc' := 118) (L' := [some (.inr (.inr (some 71))), some (.inr (.inr (some 6))), some (.inl p2), none, some (.inl p4), some (.inl (l6_5 + 1)), some (.inl l6_6), some (.inl (dt1260 6 (((p2 * 500) + l6_6).toNat))), some (.inl ((-11) - (dt1260 6 (((p2 * 500) + l6_6).toNat))))]) (st' := [.inl ((-11) - (dt1260 6 (((p2 * 500) + l6_6).toNat))), .inr (.inr (some 73)), .inl (l6_5 + 1), .inr (.inr (some 74))]) (w' := (SH, dt1260)) rfl ?_
                        have r1415 : (-2147483648) ≤ dt1260 73 (((-11) - (dt1260 6 (((p2 * 500) + l6_6).toNat))).toNat) ∧ dt1260 73 (((-11) - (dt1260 6 (((p2 * 500) + l6_6).toNat))).toNat) ≤ 2147483647 := InvC_get hI1261 73 (((-11) - (dt1260 6 (((p2 * 500) + l6_6).toNat))).toNat) rfl rfl
                        refine go_smpq PM48 (L' := [some (.inr (.inr (some 71))), some (.inr (.inr (some 6))), some (.inl p2), none, some (.inl p4), some (.inl (l6_5 + 1)), some (.inl l6_6), some (.inl (dt1260 6 (((p2 * 500) + l6_6).toNat))), some (.inl ((-11) - (dt1260 6 (((p2 * 500) + l6_6).toNat))))]) (st' := [.inl (dt1260 73 (((-11) - (dt1260 6 (((p2 * 500) + l6_6).toNat))).toNat)), .inl (l6_5 + 1), .inr (.inr (some 74))]) (w' := (SH, dt1260)) rfl rfl (s_iald (n := 6) (f := dt1260 73) rfl ⟨by omega, by omega⟩) ?_
                        refine go_toq PM48 (k := 1) (pc' := 123) (L' := [some (.inr (.inr (some 71))), some (.inr (.inr (some 6))), some (.inl p2), none, some (.inl p4), some (.inl (l6_5 + 1)), some (.inl l6_6), some (.inl (dt1260 6 (((p2 * 500) + l6_6).toNat))), some (.inl ((-11) - (dt1260 6 (((p2 * 500) + l6_6).toNat))))]) (st' := [.inl (dt1260 73 (((-11) - (dt1260 6 (((p2 * 500) + l6_6).toNat))).toNat)), .inl (l6_5 + 1), .inr (.inr (some 74))]) (w' := (SH, dt1260)) rfl ?_
                        have hI1416 : InvC (u2 dt1260 74 ((l6_5 + 1).toNat) (dt1260 73 (((-11) - (dt1260 6 (((p2 * 500) + l6_6).toNat))).toNat))) := InvC_u2 hI1261 (lo := -2147483648) (hi := 2147483647) rfl rfl rfl (by first | exact bnd1 r1415 (by decide) | fail) (by first | exact bnd2 r1415 (by decide) | fail)
                        have hF1417 : Fr [74] dt (u2 dt1260 74 ((l6_5 + 1).toNat) (dt1260 73 (((-11) - (dt1260 6 (((p2 * 500) + l6_6).toNat))).toNat))) := Fr_u2 hF1262 (by decide)
                        refine go_smpq PM48 (L' := [some (.inr (.inr (some 71))), some (.inr (.inr (some 6))), some (.inl p2), none, some (.inl p4), some (.inl (l6_5 + 1)), some (.inl l6_6), some (.inl (dt1260 6 (((p2 * 500) + l6_6).toNat))), some (.inl ((-11) - (dt1260 6 (((p2 * 500) + l6_6).toNat))))]) (st' := []) (w' := (SH, (u2 dt1260 74 ((l6_5 + 1).toNat) (dt1260 73 (((-11) - (dt1260 6 (((p2 * 500) + l6_6).toNat))).toNat))))) rfl rfl (s_iast (n := 64) rfl ⟨by omega, by omega⟩ (by first | exact bnd r1415 (by decide) (by decide) | exact ⟨by fail, by fail⟩)) ?_
                        exact GO.le (j1402 (l6_5 + 1) (u2 dt1260 74 ((l6_5 + 1).toNat) (dt1260 73 (((-11) - (dt1260 6 (((p2 * 500) + l6_6).toNat))).toNat))) hI1416 hF1417 (by first | exact bndp i1263 (by decide) (by decide) | omega) (by omega)) ⟨.inl rfl, .inl rfl, .inl rfl, .inl rfl, .inl rfl, .inl rfl, .inl rfl, .inr ⟨rfl, trivial⟩, .inr ⟨rfl, trivial⟩, trivial⟩
                    · exfalso; omega
  exact GO.le (loop1265 _ (-1) p3 dt hI hF ⟨by decide, by decide⟩ (by first | exact bnd h_p3 (by decide) (by decide) | fail) (Nat.lt_succ_self _)) ⟨.inl rfl, .inl rfl, .inl rfl, .inr ⟨rfl, trivial⟩, .inl rfl, .inl rfl, .inl rfl, .inl rfl, .inl rfl, trivial⟩
theorem sp_X3_amountOf (L : Nat) (xs : Nat → Int32) (sio : Option Nat) (d : Nat) (dt : Nat → Nat → Int) (hI : InvC dt)  (p2 : Int) (h_p2 : (-2147483648) ≤ p2 ∧ p2 ≤ 2147483647) (p3 : Int) (h_p3 : (-2147483648) ≤ p3 ∧ p3 ≤ 2147483647) (p4 : Int) (h_p4 : 0 ≤ p4 ∧ p4 ≤ 1000)  : GO (am_XX L xs sio) (d + 2) 47 0 [some (.inr (.inr (some 71))), some (.inr (.inr (some 1))), some (.inl p2), some (.inl p3), some (.inl p4), none, none, none, none, none] [] (SH, dt) (fun r w2 => ∃ dt2 : Nat → Nat → Int, w2 = (SH, dt2) ∧ InvC dt2 ∧ Fr [74] dt dt2 ∧ ((∃ v : Int, r = some (.inl v) ∧ (0 ≤ v ∧ v ≤ 1000000) ∧ (v ≤ p4)))) := by
  have hF : Fr [74] dt dt := Fr_refl
  refine go_toq PM47 (k := 1) (pc' := 1) (L' := [some (.inr (.inr (some 71))), some (.inr (.inr (some 1))), some (.inl p2), some (.inl p3), some (.inl p4), none, none, none, none, none]) (st' := [.inl p2]) (w' := (SH, dt)) rfl ?_
  refine go_callq PM47 PM103 (Q' := _) rfl rfl rfl rfl (sp_X5_isLaw L xs sio (d + 0) dt hI  p2 (by first | exact h_p2 | exact bnd h_p2 (by decide) (by decide) | exact ⟨by fail, by fail⟩) ) ?_
  rintro _ _ ⟨rfl, h1⟩
  refine ⟨rfl, ?_⟩
  rcases h1 with ⟨rfl, h1⟩ | ⟨rfl, h1⟩
  · skip
    refine go_toq PM47 (k := 3) (pc' := 12) (L' := [some (.inr (.inr (some 71))), some (.inr (.inr (some 1))), some (.inl p2), some (.inl p3), some (.inl p4), some (.inl 0), none, none, none, none]) (st' := []) (w' := (SH, dt)) rfl ?_
    have loop134 : ∀ (k_ : Nat) (l12_5 : Int) (dt130 : Nat → Nat → Int) (hI131 : InvC dt130) (hF132 : Fr [74] dt dt130) (i133 : 0 ≤ l12_5 ∧ l12_5 ≤ 16), (17 - l12_5).toNat < k_ → GO (am_XX L xs sio) (d + 2) 47 12 [some (.inr (.inr (some 71))), some (.inr (.inr (some 1))), some (.inl p2), some (.inl p3), some (.inl p4), some (.inl l12_5), none, none, none, none] [] (SH, dt130) (fun r w2 => ∃ dt2 : Nat → Nat → Int, w2 = (SH, dt2) ∧ InvC dt2 ∧ Fr [74] dt dt2 ∧ ((∃ v : Int, r = some (.inl v) ∧ (0 ≤ v ∧ v ≤ 1000000) ∧ (v ≤ p4)))) := by
      intro k_
      induction k_ with
      | zero => intro l12_5 dt130 hI131 hF132 i133 hm; exact absurd hm (Nat.not_lt_zero _)
      | succ k_ ih_loop134 =>
        intro l12_5 dt130 hI131 hF132 i133 hm
        refine go_toq PM47 (k := 4) (pc' := 19) (L' := [some (.inr (.inr (some 71))), some (.inr (.inr (some 1))), some (.inl p2), some (.inl p3), some (.inl p4), some (.inl l12_5), none, none, none, none]) (st' := [.inl p2, .inr (.inr (some 5)), .inl l12_5]) (w' := (SH, dt130)) rfl ?_
        have r135 : (-2147483648) ≤ dt130 5 (p2).toNat ∧ dt130 5 (p2).toNat ≤ 2147483647 := InvC_get hI131 5 (p2).toNat rfl rfl
        refine go_smpq PM47 (L' := [some (.inr (.inr (some 71))), some (.inr (.inr (some 1))), some (.inl p2), some (.inl p3), some (.inl p4), some (.inl l12_5), none, none, none, none]) (st' := [.inl (dt130 5 (p2).toNat), .inl l12_5]) (w' := (SH, dt130)) rfl rfl (s_iald (n := 4) (f := dt130 5) rfl (by first | exact bndx h_p2 (by decide) (by decide) | exact ⟨by omega, by omega⟩)) ?_
        refine go_ifq PM47 (k := 0) (p1 := 134) (p2 := 23) (L' := [some (.inr (.inr (some 71))), some (.inr (.inr (some 1))), some (.inl p2), some (.inl p3), some (.inl p4), some (.inl l12_5), none, none, none, none]) (st' := []) (w' := (SH, dt130)) rfl (c_ge (a := l12_5) (b := dt130 5 (p2).toNat) (by first | exact bnd i133 (by decide) (by decide) | exact ⟨by fail, by fail⟩) (by first | exact bnd r135 (by decide) (by decide) | exact ⟨by fail, by fail⟩)) (fun c136 => ?_) (fun c136 => ?_)
        · skip
          refine go_retq PM47 (k := 1) (r := some (.inl 0)) (w1 := (SH, dt130)) rfl ?_
          exact ⟨dt130, rfl, hI131, hF132, ⟨_, rfl, ⟨by decide, by decide⟩, by first | exact True.intro | with_reducible assumption | rfl | omega | trivial⟩⟩
        · skip
          refine go_ifq PM47 (k := 2) (p1 := 134) (p2 := 30) (L' := [some (.inr (.inr (some 71))), some (.inr (.inr (some 1))), some (.inl p2), some (.inl p3), some (.inl p4), some (.inl l12_5), none, none, none, none]) (st' := []) (w' := (SH, dt130)) rfl (c_ge (a := l12_5) (b := 16) (by first | exact bnd i133 (by decide) (by decide) | exact bndd i133 c136 (by decide) (by decide) | exact ⟨by fail, by fail⟩) ⟨by decide, by decide⟩) (fun c137 => ?_) (fun c137 => ?_)
          · skip
            refine go_retq PM47 (k := 1) (r := some (.inl 0)) (w1 := (SH, dt130)) rfl ?_
            exact ⟨dt130, rfl, hI131, hF132, ⟨_, rfl, ⟨by decide, by decide⟩, by first | exact True.intro | with_reducible assumption | rfl | omega | trivial⟩⟩
          · skip
            refine go_toq PM47 (k := 11) (pc' := 47) (L' := [some (.inr (.inr (some 71))), some (.inr (.inr (some 1))), some (.inl p2), some (.inl p3), some (.inl p4), some (.inl l12_5), some (.inl (((p2 * 16) + l12_5) * 4)), none, none, none]) (st' := [.inl (((p2 * 16) + l12_5) * 4), .inr (.inr (some 4))]) (w' := (SH, dt130)) rfl ?_
            have r138 : (-2147483648) ≤ dt130 4 ((((p2 * 16) + l12_5) * 4).toNat) ∧ dt130 4 ((((p2 * 16) + l12_5) * 4).toNat) ≤ 2147483647 := InvC_get hI131 4 ((((p2 * 16) + l12_5) * 4).toNat) rfl rfl
            refine go_smpq PM47 (L' := [some (.inr (.inr (some 71))), some (.inr (.inr (some 1))), some (.inl p2), some (.inl p3), some (.inl p4), some (.inl l12_5), some (.inl (((p2 * 16) + l12_5) * 4)), none, none, none]) (st' := [.inl (dt130 4 ((((p2 * 16) + l12_5) * 4).toNat))]) (w' := (SH, dt130)) rfl rfl (s_iald (n := 256) (f := dt130 4) rfl ⟨by omega, by omega⟩) ?_
            refine go_ifq PM47 (k := 1) (p1 := 128) (p2 := 52) (L' := [some (.inr (.inr (some 71))), some (.inr (.inr (some 1))), some (.inl p2), some (.inl p3), some (.inl p4), some (.inl l12_5), some (.inl (((p2 * 16) + l12_5) * 4)), none, none, none]) (st' := []) (w' := (SH, dt130)) rfl (c_ne (a := dt130 4 ((((p2 * 16) + l12_5) * 4).toNat)) (b := p3) (by first | exact bnd r138 (by decide) (by decide) | exact ⟨by fail, by fail⟩) (by first | exact bnd h_p3 (by decide) (by decide) | exact ⟨by fail, by fail⟩)) (fun c139 => ?_) (fun c139 => ?_)
            · skip
              replace c139 := hid c139
              refine go_toq PM47 (k := 2) (pc' := 12) (L' := [some (.inr (.inr (some 71))), some (.inr (.inr (some 1))), some (.inl p2), some (.inl p3), some (.inl p4), some (.inl (l12_5 + 1)), some (.inl (((p2 * 16) + l12_5) * 4)), none, none, none]) (st' := []) (w' := (SH, dt130)) rfl ?_
              exact GO.le (ih_loop134 (l12_5 + 1) dt130 hI131 hF132 (by first | exact bndp i133 (by decide) (by decide) | exact bnde i133 c137 (by decide) (by decide) | fail) (by omega)) ⟨.inl rfl, .inl rfl, .inl rfl, .inl rfl, .inl rfl, .inl rfl, .inr ⟨rfl, trivial⟩, .inl rfl, .inl rfl, .inl rfl, trivial⟩
            · skip
              refine go_toq PM47 (k := 5) (pc' := 60) (L' := [some (.inr (.inr (some 71))), some (.inr (.inr (some 1))), some (.inl p2), some (.inl p3), some (.inl p4), some (.inl l12_5), some (.inl (((p2 * 16) + l12_5) * 4)), none, none, none]) (st' := [.inl ((((p2 * 16) + l12_5) * 4) + 1), .inr (.inr (some 4))]) (w' := (SH, dt130)) rfl ?_
              have r140 : (-2147483648) ≤ dt130 4 (((((p2 * 16) + l12_5) * 4) + 1).toNat) ∧ dt130 4 (((((p2 * 16) + l12_5) * 4) + 1).toNat) ≤ 2147483647 := InvC_get hI131 4 (((((p2 * 16) + l12_5) * 4) + 1).toNat) rfl rfl
              refine go_smpq PM47 (L' := [some (.inr (.inr (some 71))), some (.inr (.inr (some 1))), some (.inl p2), some (.inl p3), some (.inl p4), some (.inl l12_5), some (.inl (((p2 * 16) + l12_5) * 4)), none, none, none]) (st' := [.inl (dt130 4 (((((p2 * 16) + l12_5) * 4) + 1).toNat))]) (w' := (SH, dt130)) rfl rfl (s_iald (n := 256) (f := dt130 4) rfl ⟨by omega, by omega⟩) ?_
              refine go_toq PM47 (k := 6) (pc' := 71) (L' := [some (.inr (.inr (some 71))), some (.inr (.inr (some 1))), some (.inl p2), some (.inl p3), some (.inl p4), some (.inl l12_5), some (.inl (((p2 * 16) + l12_5) * 4)), some (.inl (dt130 4 (((((p2 * 16) + l12_5) * 4) + 1).toNat))), none, none]) (st' := [.inl ((((p2 * 16) + l12_5) * 4) + 2), .inr (.inr (some 4))]) (w' := (SH, dt130)) rfl ?_
              have r141 : (-2147483648) ≤ dt130 4 (((((p2 * 16) + l12_5) * 4) + 2).toNat) ∧ dt130 4 (((((p2 * 16) + l12_5) * 4) + 2).toNat) ≤ 2147483647 := InvC_get hI131 4 (((((p2 * 16) + l12_5) * 4) + 2).toNat) rfl rfl
              refine go_smpq PM47 (L' := [some (.inr (.inr (some 71))), some (.inr (.inr (some 1))), some (.inl p2), some (.inl p3), some (.inl p4), some (.inl l12_5), some (.inl (((p2 * 16) + l12_5) * 4)), some (.inl (dt130 4 (((((p2 * 16) + l12_5) * 4) + 1).toNat))), none, none]) (st' := [.inl (dt130 4 (((((p2 * 16) + l12_5) * 4) + 2).toNat))]) (w' := (SH, dt130)) rfl rfl (s_iald (n := 256) (f := dt130 4) rfl ⟨by omega, by omega⟩) ?_
              refine go_toq PM47 (k := 6) (pc' := 82) (L' := [some (.inr (.inr (some 71))), some (.inr (.inr (some 1))), some (.inl p2), some (.inl p3), some (.inl p4), some (.inl l12_5), some (.inl (((p2 * 16) + l12_5) * 4)), some (.inl (dt130 4 (((((p2 * 16) + l12_5) * 4) + 1).toNat))), some (.inl (dt130 4 (((((p2 * 16) + l12_5) * 4) + 2).toNat))), none]) (st' := [.inl ((((p2 * 16) + l12_5) * 4) + 3), .inr (.inr (some 4))]) (w' := (SH, dt130)) rfl ?_
              have r142 : (-2147483648) ≤ dt130 4 (((((p2 * 16) + l12_5) * 4) + 3).toNat) ∧ dt130 4 (((((p2 * 16) + l12_5) * 4) + 3).toNat) ≤ 2147483647 := InvC_get hI131 4 (((((p2 * 16) + l12_5) * 4) + 3).toNat) rfl rfl
              refine go_smpq PM47 (L' := [some (.inr (.inr (some 71))), some (.inr (.inr (some 1))), some (.inl p2), some (.inl p3), some (.inl p4), some (.inl l12_5), some (.inl (((p2 * 16) + l12_5) * 4)), some (.inl (dt130 4 (((((p2 * 16) + l12_5) * 4) + 1).toNat))), some (.inl (dt130 4 (((((p2 * 16) + l12_5) * 4) + 2).toNat))), none]) (st' := [.inl (dt130 4 (((((p2 * 16) + l12_5) * 4) + 3).toNat))]) (w' := (SH, dt130)) rfl rfl (s_iald (n := 256) (f := dt130 4) rfl ⟨by omega, by omega⟩) ?_
              refine go_ifq PM47 (k := 3) (p1 := 109) (p2 := 92) (L' := [some (.inr (.inr (some 71))), some (.inr (.inr (some 1))), some (.inl p2), some (.inl p3), some (.inl p4), some (.inl l12_5), some (.inl (((p2 * 16) + l12_5) * 4)), some (.inl (dt130 4 (((((p2 * 16) + l12_5) * 4) + 1).toNat))), some (.inl (dt130 4 (((((p2 * 16) + l12_5) * 4) + 2).toNat))), some (.inl (dt130 4 (((((p2 * 16) + l12_5) * 4) + 3).toNat)))]) (st' := []) (w' := (SH, dt130)) rfl (c_eq (a := dt130 4 (((((p2 * 16) + l12_5) * 4) + 2).toNat)) (b := dt130 4 (((((p2 * 16) + l12_5) * 4) + 3).toNat)) (by first | exact bnd r141 (by decide) (by decide) | exact ⟨by fail, by fail⟩) (by first | exact bnd r142 (by decide) (by decide) | exact ⟨by fail, by fail⟩)) (fun c143 => ?_) (fun c143 => ?_)
              · skip
                refine go_toq PM47 (k := 6) (pc' := 119) (L' := [some (.inr (.inr (some 71))), some (.inr (.inr (some 1))), some (.inl p2), some (.inl p3), some (.inl p4), some (.inl l12_5), some (.inl (((p2 * 16) + l12_5) * 4)), some (.inl (dt130 4 (((((p2 * 16) + l12_5) * 4) + 1).toNat))), some (.inl (dt130 4 (((((p2 * 16) + l12_5) * 4) + 2).toNat))), some (.inl (dt130 4 (((((p2 * 16) + l12_5) * 4) + 3).toNat)))]) (st' := [.inl (dt130 4 (((((p2 * 16) + l12_5) * 4) + 2).toNat)), .inl (dt130 4 (((((p2 * 16) + l12_5) * 4) + 1).toNat)), .inl p2, .inr (.inr (some 6)), .inr (.inr (some 71))]) (w' := (SH, dt130)) rfl ?_
                refine go_callq PM47 PM48 (Q' := _) rfl rfl rfl rfl (sp_X3_run L xs sio (d + 0) dt130 hI131  p2 (by first | exact h_p2 | exact bnd h_p2 (by decide) (by decide) | exact ⟨by omega, by omega⟩) (dt130 4 (((((p2 * 16) + l12_5) * 4) + 1).toNat)) (by first | exact bnd r140 (by decide) (by decide) | exact ⟨by fail, by fail⟩) (dt130 4 (((((p2 * 16) + l12_5) * 4) + 2).toNat)) (by first | exact bnd r141 (by decide) (by decide) | exact ⟨by fail, by fail⟩) ) ?_
                rintro _ _ ⟨dt145, rfl, hI146, hF147, h144⟩
                refine ⟨rfl, ?_⟩
                have hF148 : Fr [74] dt dt145 := Fr_tr hF132 hF147 (by decide)
                rcases h144 with ⟨v_h144, rfl, h144r, h144⟩
                refine go_toq PM47 (k := 1) (pc' := 124) (L' := [some (.inr (.inr (some 71))), some (.inr (.inr (some 1))), some (.inl p2), some (.inl p3), some (.inl p4), some (.inl l12_5), some (.inl (((p2 * 16) + l12_5) * 4)), some (.inl (dt130 4 (((((p2 * 16) + l12_5) * 4) + 1).toNat))), some (.inl (dt130 4 (((((p2 * 16) + l12_5) * 4) + 2).toNat))), some (.inl (dt130 4 (((((p2 * 16) + l12_5) * 4) + 3).toNat)))]) (st' := [.inl p4, .inl v_h144]) (w' := (SH, dt145)) rfl ?_
                refine go_callq PM47 PM101 (Q' := _) rfl rfl rfl rfl (sp_X5_cut L xs sio (d + 0) dt145 hI146  v_h144 (by first | exact bnd h144r (by decide) (by decide) | exact ⟨by fail, by fail⟩) p4 (by first | exact h_p4 | exact bnd h_p4 (by decide) (by decide) | exact ⟨by fail, by fail⟩) ) ?_
                rintro _ _ ⟨rfl, h149⟩
                refine ⟨rfl, ?_⟩
                rcases h149 with ⟨v_h149, rfl, h149r, h149⟩
                refine go_retq PM47 (k := 0) (r := some (.inl v_h149)) (w1 := (SH, dt145)) rfl ?_
                exact ⟨dt145, rfl, hI146, hF148, ⟨_, rfl, (by first | exact bnd h149r (by decide) (by decide) | exact ⟨by fail, by fail⟩), by first | exact True.intro | with_reducible assumption | rfl | fail | trivial⟩⟩
              · skip
                replace c143 := hid c143
                refine go_toq PM47 (k := 6) (pc' := 102) (L' := [some (.inr (.inr (some 71))), some (.inr (.inr (some 1))), some (.inl p2), some (.inl p3), some (.inl p4), some (.inl l12_5), some (.inl (((p2 * 16) + l12_5) * 4)), some (.inl (dt130 4 (((((p2 * 16) + l12_5) * 4) + 1).toNat))), some (.inl (dt130 4 (((((p2 * 16) + l12_5) * 4) + 2).toNat))), some (.inl (dt130 4 (((((p2 * 16) + l12_5) * 4) + 3).toNat)))]) (st' := [.inl (dt130 4 (((((p2 * 16) + l12_5) * 4) + 3).toNat)), .inl (dt130 4 (((((p2 * 16) + l12_5) * 4) + 2).toNat)), .inl p2, .inr (.inr (some 6)), .inr (.inr (some 71))]) (w' := (SH, dt130)) rfl ?_
                refine go_callq PM47 PM48 (Q' := _) rfl rfl rfl rfl (sp_X3_run L xs sio (d + 0) dt130 hI131  p2 (by first | exact h_p2 | exact bnd h_p2 (by decide) (by decide) | exact ⟨by omega, by omega⟩) (dt130 4 (((((p2 * 16) + l12_5) * 4) + 2).toNat)) (by first | exact bnd r141 (by decide) (by decide) | exact ⟨by fail, by fail⟩) (dt130 4 (((((p2 * 16) + l12_5) * 4) + 3).toNat)) (by first | exact bnd r142 (by decide) (by decide) | exact ⟨by fail, by fail⟩) ) ?_
                rintro _ _ ⟨dt151, rfl, hI152, hF153, h150⟩
                refine ⟨rfl, ?_⟩
                have hF154 : Fr [74] dt dt151 := Fr_tr hF132 hF153 (by decide)
                rcases h150 with ⟨v_h150, rfl, h150r, h150⟩
                refine go_ifq PM47 (k := 1) (p1 := 128) (p2 := 109) (L' := [some (.inr (.inr (some 71))), some (.inr (.inr (some 1))), some (.inl p2), some (.inl p3), some (.inl p4), some (.inl l12_5), some (.inl (((p2 * 16) + l12_5) * 4)), some (.inl (dt130 4 (((((p2 * 16) + l12_5) * 4) + 1).toNat))), some (.inl (dt130 4 (((((p2 * 16) + l12_5) * 4) + 2).toNat))), some (.inl (dt130 4 (((((p2 * 16) + l12_5) * 4) + 3).toNat)))]) (st' := []) (w' := (SH, dt151)) rfl (c_ne (a := v_h150) (b := 1) (by first | exact bnd h150r (by decide) (by decide) | exact ⟨by fail, by fail⟩) ⟨by decide, by decide⟩) (fun c155 => ?_) (fun c155 => ?_)
                · skip
                  replace c155 := hid c155
                  refine go_toq PM47 (k := 2) (pc' := 12) (L' := [some (.inr (.inr (some 71))), some (.inr (.inr (some 1))), some (.inl p2), some (.inl p3), some (.inl p4), some (.inl (l12_5 + 1)), some (.inl (((p2 * 16) + l12_5) * 4)), some (.inl (dt130 4 (((((p2 * 16) + l12_5) * 4) + 1).toNat))), some (.inl (dt130 4 (((((p2 * 16) + l12_5) * 4) + 2).toNat))), some (.inl (dt130 4 (((((p2 * 16) + l12_5) * 4) + 3).toNat)))]) (st' := []) (w' := (SH, dt151)) rfl ?_
                  exact GO.le (ih_loop134 (l12_5 + 1) dt151 hI152 hF154 (by first | exact bndp i133 (by decide) (by decide) | exact bnde i133 c137 (by decide) (by decide) | fail) (by omega)) ⟨.inl rfl, .inl rfl, .inl rfl, .inl rfl, .inl rfl, .inl rfl, .inr ⟨rfl, trivial⟩, .inr ⟨rfl, trivial⟩, .inr ⟨rfl, trivial⟩, .inr ⟨rfl, trivial⟩, trivial⟩
                · skip
                  refine go_toq PM47 (k := 6) (pc' := 119) (L' := [some (.inr (.inr (some 71))), some (.inr (.inr (some 1))), some (.inl p2), some (.inl p3), some (.inl p4), some (.inl l12_5), some (.inl (((p2 * 16) + l12_5) * 4)), some (.inl (dt130 4 (((((p2 * 16) + l12_5) * 4) + 1).toNat))), some (.inl (dt130 4 (((((p2 * 16) + l12_5) * 4) + 2).toNat))), some (.inl (dt130 4 (((((p2 * 16) + l12_5) * 4) + 3).toNat)))]) (st' := [.inl (dt130 4 (((((p2 * 16) + l12_5) * 4) + 2).toNat)), .inl (dt130 4 (((((p2 * 16) + l12_5) * 4) + 1).toNat)), .inl p2, .inr (.inr (some 6)), .inr (.inr (some 71))]) (w' := (SH, dt151)) rfl ?_
                  refine go_callq PM47 PM48 (Q' := _) rfl rfl rfl rfl (sp_X3_run L xs sio (d + 0) dt151 hI152  p2 (by first | exact h_p2 | exact bnd h_p2 (by decide) (by decide) | exact ⟨by omega, by omega⟩) (dt130 4 (((((p2 * 16) + l12_5) * 4) + 1).toNat)) (by first | exact bnd r140 (by decide) (by decide) | exact ⟨by fail, by fail⟩) (dt130 4 (((((p2 * 16) + l12_5) * 4) + 2).toNat)) (by first | exact bnd r141 (by decide) (by decide) | exact ⟨by fail, by fail⟩) ) ?_
                  rintro _ _ ⟨dt157, rfl, hI158, hF159, h156⟩
                  refine ⟨rfl, ?_⟩
                  have hF160 : Fr [74] dt dt157 := Fr_tr hF154 hF159 (by decide)
                  rcases h156 with ⟨v_h156, rfl, h156r, h156⟩
                  refine go_toq PM47 (k := 1) (pc' := 124) (L' := [some (.inr (.inr (some 71))), some (.inr (.inr (some 1))), some (.inl p2), some (.inl p3), some (.inl p4), some (.inl l12_5), some (.inl (((p2 * 16) + l12_5) * 4)), some (.inl (dt130 4 (((((p2 * 16) + l12_5) * 4) + 1).toNat))), some (.inl (dt130 4 (((((p2 * 16) + l12_5) * 4) + 2).toNat))), some (.inl (dt130 4 (((((p2 * 16) + l12_5) * 4) + 3).toNat)))]) (st' := [.inl p4, .inl v_h156]) (w' := (SH, dt157)) rfl ?_
                  refine go_callq PM47 PM101 (Q' := _) rfl rfl rfl rfl (sp_X5_cut L xs sio (d + 0) dt157 hI158  v_h156 (by first | exact bnd h156r (by decide) (by decide) | exact ⟨by fail, by fail⟩) p4 (by first | exact h_p4 | exact bnd h_p4 (by decide) (by decide) | exact ⟨by fail, by fail⟩) ) ?_
                  rintro _ _ ⟨rfl, h161⟩
                  refine ⟨rfl, ?_⟩
                  rcases h161 with ⟨v_h161, rfl, h161r, h161⟩
                  refine go_retq PM47 (k := 0) (r := some (.inl v_h161)) (w1 := (SH, dt157)) rfl ?_
                  exact ⟨dt157, rfl, hI158, hF160, ⟨_, rfl, (by first | exact bnd h161r (by decide) (by decide) | exact ⟨by fail, by fail⟩), by first | exact True.intro | with_reducible assumption | exact unhid (by with_reducible assumption) | rfl | fail | trivial⟩⟩
    exact GO.le (loop134 _ 0 dt hI hF ⟨by decide, by decide⟩ (Nat.lt_succ_self _)) ⟨.inl rfl, .inl rfl, .inl rfl, .inl rfl, .inl rfl, .inl rfl, .inl rfl, .inl rfl, .inl rfl, .inl rfl, trivial⟩
  · skip
    refine go_retq PM47 (k := 2) (r := some (.inl 0)) (w1 := (SH, dt)) rfl ?_
    exact ⟨dt, rfl, hI, hF, ⟨_, rfl, ⟨by decide, by decide⟩, by first | exact True.intro | with_reducible assumption | rfl | omega | trivial⟩⟩
theorem sp_X3_weigh (L : Nat) (xs : Nat → Int32) (sio : Option Nat) (d : Nat) (dt : Nat → Nat → Int) (hI : InvC dt)  (p2 : Int) (h_p2 : (-2147483648) ≤ p2 ∧ p2 ≤ 2147483647)  : GO (am_XX L xs sio) (d + 3) 45 0 [some (.inr (.inr (some 71))), some (.inr (.inr (some 1))), some (.inl p2), none] [] (SH, dt) (fun r w2 => ∃ dt2 : Nat → Nat → Int, w2 = (SH, dt2) ∧ InvC dt2 ∧ Fr [71, 72, 74] dt dt2 ∧ ((r = none ∧ True))) := by
  have hF : Fr [71, 72, 74] dt dt := Fr_refl
  refine go_toq PM45 (k := 2) (pc' := 2) (L' := [some (.inr (.inr (some 71))), some (.inr (.inr (some 1))), some (.inl p2), none]) (st' := [.inl 0, .inr (.inr (some 71))]) (w' := (SH, dt)) rfl ?_
  have hI1 : InvC (u2 dt 71 1 0) := InvC_u2 hI (lo := 0) (hi := 792) rfl rfl rfl (by decide) (by decide)
  have hF2 : Fr [71, 72, 74] dt (u2 dt 71 1 0) := Fr_u2 hF (by decide)
  have w3 : (u2 dt 71 1 0) 71 1 = 0 := rfl
  refine go_smpq PM45 (L' := [some (.inr (.inr (some 71))), some (.inr (.inr (some 1))), some (.inl p2), none]) (st' := []) (w' := (SH, (u2 dt 71 1 0))) rfl rfl (s_pf rfl rfl rfl rfl ⟨by decide, by decide⟩) ?_
  refine go_toq PM45 (k := 2) (pc' := 7) (L' := [some (.inr (.inr (some 71))), some (.inr (.inr (some 1))), some (.inl p2), some (.inl 0)]) (st' := []) (w' := (SH, (u2 dt 71 1 0))) rfl ?_
  have loop89 : ∀ (k_ : Nat) (l7_3 : Int) (dt84 : Nat → Nat → Int) (hI85 : InvC dt84) (hF86 : Fr [71, 72, 74] dt dt84) (i87 : 0 ≤ l7_3 ∧ l7_3 ≤ 8) (i88 : 0 ≤ dt84 71 1 ∧ dt84 71 1 ≤ 99 * l7_3), (9 - l7_3).toNat < k_ → GO (am_XX L xs sio) (d + 3) 45 7 [some (.inr (.inr (some 71))), some (.inr (.inr (some 1))), some (.inl p2), some (.inl l7_3)] [] (SH, dt84) (fun r w2 => ∃ dt2 : Nat → Nat → Int, w2 = (SH, dt2) ∧ InvC dt2 ∧ Fr [71, 72, 74] dt dt2 ∧ ((r = none ∧ True))) := by
    intro k_
    induction k_ with
    | zero => intro l7_3 dt84 hI85 hF86 i87 i88 hm; exact absurd hm (Nat.not_lt_zero _)
    | succ k_ ih_loop89 =>
      intro l7_3 dt84 hI85 hF86 i87 i88 hm
      refine go_ifq PM45 (k := 2) (p1 := 49) (p2 := 13) (L' := [some (.inr (.inr (some 71))), some (.inr (.inr (some 1))), some (.inl p2), some (.inl l7_3)]) (st' := []) (w' := (SH, dt84)) rfl (c_ge (a := l7_3) (b := 8) (by first | exact bnd i87 (by decide) (by decide) | exact ⟨by fail, by fail⟩) ⟨by decide, by decide⟩) (fun c105 => ?_) (fun c105 => ?_)
      · skip
        refine go_toq PM45 (k := 8) (pc' := 62) (L' := [some (.inr (.inr (some 71))), some (.inr (.inr (some 1))), some (.inl p2), some (.inl l7_3)]) (st' := [.inl 100, .inl 8, .inl p2, .inr (.inr (some 1)), .inr (.inr (some 71)), .inl 8, .inr (.inr (some 72))]) (w' := (SH, dt84)) rfl ?_
        refine go_callq PM45 PM47 (Q' := _) rfl rfl rfl rfl (sp_X3_amountOf L xs sio (d + 0) dt84 hI85  p2 (by first | exact h_p2 | exact bnd h_p2 (by decide) (by decide) | exact ⟨by fail, by fail⟩) 8 ⟨by decide, by decide⟩ 100 ⟨by decide, by decide⟩ ) ?_
        rintro _ _ ⟨dt107, rfl, hI108, hF109, h106⟩
        refine ⟨rfl, ?_⟩
        have hF110 : Fr [71, 72, 74] dt dt107 := Fr_tr hF86 hF109 (by decide)
        have w111 : dt107 71 1 = dt84 71 1 := hF109 71 (by decide) 1
        rcases h106 with ⟨v_h106, rfl, h106r, h106⟩
        have hI112 : InvC (u2 dt107 72 8 v_h106) := InvC_u2 hI108 (lo := 0) (hi := 100) rfl rfl rfl (by first | exact bnd1 h106r (by decide) | fail) (by first | exact bnd2 h106r (by decide) | omega)
        have hF113 : Fr [71, 72, 74] dt (u2 dt107 72 8 v_h106) := Fr_u2 hF110 (by decide)
        have w114 : (u2 dt107 72 8 v_h106) 71 1 = dt107 71 1 := rfl
        refine go_smpq PM45 (L' := [some (.inr (.inr (some 71))), some (.inr (.inr (some 1))), some (.inl p2), some (.inl l7_3)]) (st' := []) (w' := (SH, (u2 dt107 72 8 v_h106))) rfl rfl (s_iast (n := 9) rfl ⟨by omega, by omega⟩ ⟨by omega, by omega⟩) ?_
        refine go_retq PM45 (k := 0) (r := none) (w1 := (SH, (u2 dt107 72 8 v_h106))) rfl ?_
        exact ⟨(u2 dt107 72 8 v_h106), rfl, hI112, hF113, ⟨rfl, trivial⟩⟩
      · skip
        refine go_toq PM45 (k := 8) (pc' := 24) (L' := [some (.inr (.inr (some 71))), some (.inr (.inr (some 1))), some (.inl p2), some (.inl l7_3)]) (st' := [.inl 99, .inl l7_3, .inl p2, .inr (.inr (some 1)), .inr (.inr (some 71)), .inl l7_3, .inr (.inr (some 72))]) (w' := (SH, dt84)) rfl ?_
        refine go_callq PM45 PM47 (Q' := _) rfl rfl rfl rfl (sp_X3_amountOf L xs sio (d + 0) dt84 hI85  p2 (by first | exact h_p2 | exact bnd h_p2 (by decide) (by decide) | exact ⟨by fail, by fail⟩) l7_3 (by first | exact bnd i87 (by decide) (by decide) | exact bndd i87 c105 (by decide) (by decide) | exact ⟨by fail, by fail⟩) 99 ⟨by decide, by decide⟩ ) ?_
        rintro _ _ ⟨dt116, rfl, hI117, hF118, h115⟩
        refine ⟨rfl, ?_⟩
        have hF119 : Fr [71, 72, 74] dt dt116 := Fr_tr hF86 hF118 (by decide)
        have w120 : dt116 71 1 = dt84 71 1 := hF118 71 (by decide) 1
        rcases h115 with ⟨v_h115, rfl, h115r, h115⟩
        have hI121 : InvC (u2 dt116 72 (l7_3).toNat v_h115) := InvC_u2 hI117 (lo := 0) (hi := 100) rfl rfl rfl (by first | exact bnd1 h115r (by decide) | fail) (by first | exact bnd2 h115r (by decide) | omega)
        have hF122 : Fr [71, 72, 74] dt (u2 dt116 72 (l7_3).toNat v_h115) := Fr_u2 hF119 (by decide)
        have w123 : (u2 dt116 72 (l7_3).toNat v_h115) 71 1 = dt116 71 1 := rfl
        refine go_smpq PM45 (L' := [some (.inr (.inr (some 71))), some (.inr (.inr (some 1))), some (.inl p2), some (.inl l7_3)]) (st' := []) (w' := (SH, (u2 dt116 72 (l7_3).toNat v_h115))) rfl rfl (s_iast (n := 9) rfl ⟨by omega, by omega⟩ ⟨by omega, by omega⟩) ?_
        have r124 : 0 ≤ dt116 71 1 ∧ dt116 71 1 ≤ 792 := InvC_get hI117 71 1 rfl rfl
        refine go_toq PM45 (k := 6) (pc' := 38) (L' := [some (.inr (.inr (some 71))), some (.inr (.inr (some 1))), some (.inl p2), some (.inl l7_3)]) (st' := [.inl l7_3, .inr (.inr (some 72)), .inl (dt116 71 1), .inr (.inr (some 71))]) (w' := (SH, (u2 dt116 72 (l7_3).toNat v_h115))) rfl ?_
        have e125 : (u2 dt116 72 (l7_3).toNat v_h115) 72 (l7_3).toNat = v_h115 := u2_eq
        refine go_smpq PM45 (L' := [some (.inr (.inr (some 71))), some (.inr (.inr (some 1))), some (.inl p2), some (.inl l7_3)]) (st' := [.inl ((u2 dt116 72 (l7_3).toNat v_h115) 72 (l7_3).toNat), .inl (dt116 71 1), .inr (.inr (some 71))]) (w' := (SH, (u2 dt116 72 (l7_3).toNat v_h115))) rfl rfl (s_iald (n := 9) (f := (u2 dt116 72 (l7_3).toNat v_h115) 72) rfl (by first | exact bndc i87 c105 (by decide) (by decide) | exact bndx i87 (by decide) (by decide) | exact ⟨by fail, by fail⟩)) ?_
        refine go_toq PM45 (k := 1) (pc' := 40) (L' := [some (.inr (.inr (some 71))), some (.inr (.inr (some 1))), some (.inl p2), some (.inl l7_3)]) (st' := [.inl ((dt116 71 1) + ((u2 dt116 72 (l7_3).toNat v_h115) 72 (l7_3).toNat)), .inr (.inr (some 71))]) (w' := (SH, (u2 dt116 72 (l7_3).toNat v_h115))) rfl ?_
        have hI126 : InvC (u2 (u2 dt116 72 (l7_3).toNat v_h115) 71 1 ((dt116 71 1) + ((u2 dt116 72 (l7_3).toNat v_h115) 72 (l7_3).toNat))) := InvC_u2 hI121 (lo := 0) (hi := 792) rfl rfl rfl (by omega) (by omega)
        have hF127 : Fr [71, 72, 74] dt (u2 (u2 dt116 72 (l7_3).toNat v_h115) 71 1 ((dt116 71 1) + ((u2 dt116 72 (l7_3).toNat v_h115) 72 (l7_3).toNat))) := Fr_u2 hF122 (by decide)
        have w128 : (u2 (u2 dt116 72 (l7_3).toNat v_h115) 71 1 ((dt116 71 1) + ((u2 dt116 72 (l7_3).toNat v_h115) 72 (l7_3).toNat))) 71 1 = (dt116 71 1) + ((u2 dt116 72 (l7_3).toNat v_h115) 72 (l7_3).toNat) := rfl
        refine go_smpq PM45 (L' := [some (.inr (.inr (some 71))), some (.inr (.inr (some 1))), some (.inl p2), some (.inl l7_3)]) (st' := []) (w' := (SH, (u2 (u2 dt116 72 (l7_3).toNat v_h115) 71 1 ((dt116 71 1) + ((u2 dt116 72 (l7_3).toNat v_h115) 72 (l7_3).toNat))))) rfl rfl (s_pf rfl rfl rfl rfl ⟨by omega, by omega⟩) ?_
        refine go_toq PM45 (k := 2) (pc' := 7) (L' := [some (.inr (.inr (some 71))), some (.inr (.inr (some 1))), some (.inl p2), some (.inl (l7_3 + 1))]) (st' := []) (w' := (SH, (u2 (u2 dt116 72 (l7_3).toNat v_h115) 71 1 ((dt116 71 1) + ((u2 dt116 72 (l7_3).toNat v_h115) 72 (l7_3).toNat))))) rfl ?_
        exact GO.le (ih_loop89 (l7_3 + 1) (u2 (u2 dt116 72 (l7_3).toNat v_h115) 71 1 ((dt116 71 1) + ((u2 dt116 72 (l7_3).toNat v_h115) 72 (l7_3).toNat))) hI126 hF127 (by first | exact bndp i87 (by decide) (by decide) | exact bnde i87 c105 (by decide) (by decide) | fail) (by omega) (by omega)) ⟨.inl rfl, .inl rfl, .inl rfl, .inl rfl, trivial⟩
  exact GO.le (loop89 _ 0 (u2 dt 71 1 0) hI1 hF2 ⟨by decide, by decide⟩ (by omega) (Nat.lt_succ_self _)) ⟨.inl rfl, .inl rfl, .inl rfl, .inl rfl, trivial⟩
