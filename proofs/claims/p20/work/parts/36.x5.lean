theorem sp_J9_abs_0f7a4_u (L : Nat) (xs : Nat → Int32) (sio : Option Nat) (d : Nat) (dt : Nat → Nat → Int) (hI : InvC dt)  (p1 : Int)  : GO (am_XX L xs sio) (d) 264 0 [some (.inl p1)] [] (SH, dt) (fun r w2 => w2 = (SH, dt) ∧ ((∃ v : Int, r = some (.inl v) ∧ True ∧ True))) := by
  have j3 : ∀ (j3_s0 : Int), GO (am_XX L xs sio) (d) 264 10 [none] [.inl j3_s0] (SH, dt) (fun r w2 => w2 = (SH, dt) ∧ ((∃ v : Int, r = some (.inl v) ∧ True ∧ True))) := by
    intro j3_s0
    refine go_retq PM264 (k := 0) (r := some (.inl j3_s0)) (w1 := (SH, dt)) rfl ?_
    exact ⟨rfl, ⟨_, rfl, trivial, trivial⟩⟩
  have r5 := wr_RR p1
  refine go_ifq PM264 (k := 1) (p1 := 9) (p2 := 4) (L' := [some (.inl p1)]) (st' := []) (w' := (SH, dt)) rfl (u_ge (a := wr p1) (b := 0)) (fun c4 => ?_) (fun c4 => ?_)
  · skip
    refine go_toq PM264 (k := 1) (pc' := 10) (L' := [some (.inl p1)]) (st' := [.inl p1]) (w' := (SH, dt)) rfl ?_
    exact GO.le (j3 p1) ⟨.inr ⟨rfl, trivial⟩, trivial⟩
  · skip
    refine go_toq PM264 (k := 3) (pc' := 10) (L' := [some (.inl p1)]) (st' := [.inl (-p1)]) (w' := (SH, dt)) rfl ?_
    exact GO.le (j3 (-p1)) ⟨.inr ⟨rfl, trivial⟩, trivial⟩
theorem sp_J9_min_7cf53_u (L : Nat) (xs : Nat → Int32) (sio : Option Nat) (d : Nat) (dt : Nat → Nat → Int) (hI : InvC dt)  (p1 : Int) (h_p1 : 0 ≤ p1 ∧ p1 ≤ 1000000) (p2 : Int)  : GO (am_XX L xs sio) (d) 266 0 [some (.inl p1), some (.inl p2)] [] (SH, dt) (fun r w2 => w2 = (SH, dt) ∧ ((∃ v : Int, r = some (.inl v) ∧ True ∧ True))) := by
  have j4 : ∀ (j4_s0 : Int), GO (am_XX L xs sio) (d) 266 10 [none, none] [.inl j4_s0] (SH, dt) (fun r w2 => w2 = (SH, dt) ∧ ((∃ v : Int, r = some (.inl v) ∧ True ∧ True))) := by
    intro j4_s0
    refine go_retq PM266 (k := 0) (r := some (.inl j4_s0)) (w1 := (SH, dt)) rfl ?_
    exact ⟨rfl, ⟨_, rfl, trivial, trivial⟩⟩
  have r6 := wr_RR p1
  have r7 := wr_RR p2
  refine go_ifq PM266 (k := 2) (p1 := 9) (p2 := 5) (L' := [some (.inl p1), some (.inl p2)]) (st' := []) (w' := (SH, dt)) rfl (u_gt (a := wr p1) (b := wr p2)) (fun c5 => ?_) (fun c5 => ?_)
  · skip
    refine go_toq PM266 (k := 1) (pc' := 10) (L' := [some (.inl p1), some (.inl p2)]) (st' := [.inl p2]) (w' := (SH, dt)) rfl ?_
    exact GO.le (j4 p2) ⟨.inr ⟨rfl, trivial⟩, .inr ⟨rfl, trivial⟩, trivial⟩
  · skip
    refine go_toq PM266 (k := 2) (pc' := 10) (L' := [some (.inl p1), some (.inl p2)]) (st' := [.inl p1]) (w' := (SH, dt)) rfl ?_
    exact GO.le (j4 p1) ⟨.inr ⟨rfl, trivial⟩, .inr ⟨rfl, trivial⟩, trivial⟩
theorem sp_J9_max_7cf53_u (L : Nat) (xs : Nat → Int32) (sio : Option Nat) (d : Nat) (dt : Nat → Nat → Int) (hI : InvC dt)  (p1 : Int) (h_p1 : 0 ≤ p1 ∧ p1 ≤ 0) (p2 : Int)  : GO (am_XX L xs sio) (d) 265 0 [some (.inl p1), some (.inl p2)] [] (SH, dt) (fun r w2 => w2 = (SH, dt) ∧ ((∃ v : Int, r = some (.inl v) ∧ True ∧ True))) := by
  have j4 : ∀ (j4_s0 : Int), GO (am_XX L xs sio) (d) 265 10 [none, none] [.inl j4_s0] (SH, dt) (fun r w2 => w2 = (SH, dt) ∧ ((∃ v : Int, r = some (.inl v) ∧ True ∧ True))) := by
    intro j4_s0
    refine go_retq PM265 (k := 0) (r := some (.inl j4_s0)) (w1 := (SH, dt)) rfl ?_
    exact ⟨rfl, ⟨_, rfl, trivial, trivial⟩⟩
  have r6 := wr_RR p1
  have r7 := wr_RR p2
  refine go_ifq PM265 (k := 2) (p1 := 9) (p2 := 5) (L' := [some (.inl p1), some (.inl p2)]) (st' := []) (w' := (SH, dt)) rfl (u_lt (a := wr p1) (b := wr p2)) (fun c5 => ?_) (fun c5 => ?_)
  · skip
    refine go_toq PM265 (k := 1) (pc' := 10) (L' := [some (.inl p1), some (.inl p2)]) (st' := [.inl p2]) (w' := (SH, dt)) rfl ?_
    exact GO.le (j4 p2) ⟨.inr ⟨rfl, trivial⟩, .inr ⟨rfl, trivial⟩, trivial⟩
  · skip
    refine go_toq PM265 (k := 2) (pc' := 10) (L' := [some (.inl p1), some (.inl p2)]) (st' := [.inl p1]) (w' := (SH, dt)) rfl ?_
    exact GO.le (j4 p1) ⟨.inr ⟨rfl, trivial⟩, .inr ⟨rfl, trivial⟩, trivial⟩
theorem sp_X5_cut_u (L : Nat) (xs : Nat → Int32) (sio : Option Nat) (d : Nat) (dt : Nat → Nat → Int) (hI : InvC dt)  (p1 : Int) (p2 : Int) (h_p2 : 0 ≤ p2 ∧ p2 ≤ 1000000)  : GO (am_XX L xs sio) (d + 1) 101 0 [some (.inl p1), some (.inl p2)] [] (SH, dt) (fun r w2 => w2 = (SH, dt) ∧ ((∃ v : Int, r = some (.inl v) ∧ True ∧ True))) := by
  refine go_toq PM101 (k := 3) (pc' := 3) (L' := [some (.inl p1), some (.inl p2)]) (st' := [.inl p1, .inl p2, .inl 0]) (w' := (SH, dt)) rfl ?_
  refine go_callq PM101 PM266 (Q' := _) rfl rfl rfl rfl (sp_J9_min_7cf53_u L xs sio (d + 0) dt hI  p2 (by first | exact h_p2 | exact bnd h_p2 (by decide) (by decide) | exact ⟨by fail, by fail⟩) p1 ) ?_
  rintro _ _ ⟨rfl, h1⟩
  refine ⟨rfl, ?_⟩
  rcases h1 with ⟨v_h1, rfl, h1r, h1⟩
  refine go_callq PM101 PM265 (Q' := _) rfl rfl rfl rfl (sp_J9_max_7cf53_u L xs sio (d + 0) dt hI  0 ⟨by decide, by decide⟩ v_h1 ) ?_
  rintro _ _ ⟨rfl, h2⟩
  refine ⟨rfl, ?_⟩
  rcases h2 with ⟨v_h2, rfl, h2r, h2⟩
  refine go_retq PM101 (k := 0) (r := some (.inl v_h2)) (w1 := (SH, dt)) rfl ?_
  exact ⟨rfl, ⟨_, rfl, trivial, trivial⟩⟩
theorem sp_X5_canAsk (L : Nat) (xs : Nat → Int32) (sio : Option Nat) (d : Nat) (dt : Nat → Nat → Int) (hI : InvC dt)  (p1 : Int) (h_p1 : (-2147483648) ≤ p1 ∧ p1 ≤ 2147483647) (p2 : Int) (h_p2 : (-2147483648) ≤ p2 ∧ p2 ≤ 2147483647) (p3 : Int) (h_p3 : (-2147483648) ≤ p3 ∧ p3 ≤ 2147483647)  : GO (am_XX L xs sio) (d + 1) 108 0 [some (.inr (.inr (some 0))), some (.inl p1), some (.inl p2), some (.inl p3)] [] (SH, dt) (fun r w2 => w2 = (SH, dt) ∧ ((r = some (.inl 1) ∧ (0 ≤ p1 ∧ p1 < dt 10 3) ∧ (0 ≤ p2 ∧ p2 < dt 7 3) ∧ (0 ≤ p3 ∧ p3 ≤ 3)) ∨ (r = some (.inl 0) ∧ (¬ ((0 ≤ p1 ∧ p1 < dt 10 3) ∧ (0 ≤ p2 ∧ p2 < dt 7 3) ∧ (0 ≤ p3 ∧ p3 ≤ 3)))))) := by
  refine go_toq PM108 (k := 4) (pc' := 8) (L' := [some (.inr (.inr (some 0))), some (.inl p1), some (.inl p2), some (.inl p3)]) (st' := [.inl p1, .inr (.inr (some 10))]) (w' := (SH, dt)) rfl ?_
  have r1 : 0 ≤ dt 10 3 ∧ dt 10 3 ≤ 40 := InvC_get hI 10 3 rfl rfl
  refine go_callq PM108 PM37 (Q' := _) rfl rfl rfl rfl (sp_X2_has_10 L xs sio (d + 0) dt hI  p1 (by first | exact h_p1 | exact bnd h_p1 (by decide) (by decide) | exact ⟨by fail, by fail⟩) ) ?_
  rintro _ _ ⟨rfl, h2⟩
  refine ⟨rfl, ?_⟩
  rcases h2 with ⟨rfl, h2⟩ | ⟨rfl, h2⟩
  · skip
    refine go_toq PM108 (k := 5) (pc' := 22) (L' := [some (.inr (.inr (some 0))), some (.inl p1), some (.inl p2), some (.inl p3)]) (st' := [.inl p2, .inr (.inr (some 7))]) (w' := (SH, dt)) rfl ?_
    have r3 : 0 ≤ dt 7 3 ∧ dt 7 3 ≤ 12 := InvC_get hI 7 3 rfl rfl
    refine go_callq PM108 PM37 (Q' := _) rfl rfl rfl rfl (sp_X2_has_7 L xs sio (d + 0) dt hI  p2 (by first | exact h_p2 | exact bnd h_p2 (by decide) (by decide) | exact ⟨by fail, by fail⟩) ) ?_
    rintro _ _ ⟨rfl, h4⟩
    refine ⟨rfl, ?_⟩
    rcases h4 with ⟨rfl, h4⟩ | ⟨rfl, h4⟩
    · skip
      refine go_toq PM108 (k := 4) (pc' := 31) (L' := [some (.inr (.inr (some 0))), some (.inl p1), some (.inl p2), some (.inl p3)]) (st' := [.inl 3, .inl 0, .inl p3]) (w' := (SH, dt)) rfl ?_
      refine go_callq PM108 PM100 (Q' := _) rfl rfl rfl rfl (sp_X5_within L xs sio (d + 0) dt hI  p3 (by first | exact h_p3 | exact bnd h_p3 (by decide) (by decide) | exact ⟨by fail, by fail⟩) 0 ⟨by decide, by decide⟩ 3 ⟨by decide, by decide⟩ ) ?_
      rintro _ _ ⟨rfl, h5⟩
      refine ⟨rfl, ?_⟩
      rcases h5 with ⟨rfl, h5⟩ | ⟨rfl, h5⟩
      · skip
        refine go_retq PM108 (k := 3) (r := some (.inl 1)) (w1 := (SH, dt)) rfl ?_
        exact ⟨rfl, (Or.inl ⟨rfl, ⟨by first | exact True.intro | with_reducible assumption | rfl | fail | trivial, by first | exact True.intro | with_reducible assumption | rfl | fail | trivial, by first | exact True.intro | with_reducible assumption | rfl | fail | trivial⟩⟩)⟩
      · skip
        refine go_retq PM108 (k := 2) (r := some (.inl 0)) (w1 := (SH, dt)) rfl ?_
        exact ⟨rfl, (Or.inr ⟨rfl, by first | exact True.intro | with_reducible assumption | rfl | omega | trivial⟩)⟩
    · skip
      refine go_retq PM108 (k := 2) (r := some (.inl 0)) (w1 := (SH, dt)) rfl ?_
      exact ⟨rfl, (Or.inr ⟨rfl, by first | exact True.intro | with_reducible assumption | rfl | omega | trivial⟩)⟩
  · skip
    refine go_retq PM108 (k := 2) (r := some (.inl 0)) (w1 := (SH, dt)) rfl ?_
    exact ⟨rfl, (Or.inr ⟨rfl, by first | exact True.intro | with_reducible assumption | rfl | omega | trivial⟩)⟩
theorem sp_X5_lawOf (L : Nat) (xs : Nat → Int32) (sio : Option Nat) (d : Nat) (dt : Nat → Nat → Int) (hI : InvC dt)  (p1 : Int) (h_p1 : (-2147483648) ≤ p1 ∧ p1 ≤ 2147483647)  : GO (am_XX L xs sio) (d + 2) 109 0 [some (.inr (.inr (some 0))), some (.inl p1)] [] (SH, dt) (fun r w2 => w2 = (SH, dt) ∧ ((∃ v : Int, r = some (.inl v) ∧ ((-2147483648) ≤ v ∧ v ≤ 2147483647) ∧ True))) := by
  refine go_toq PM109 (k := 5) (pc' := 9) (L' := [some (.inr (.inr (some 0))), some (.inl p1)]) (st' := [.inl 0, .inl p1, .inr (.inr (some 10))]) (w' := (SH, dt)) rfl ?_
  refine go_callq PM109 PM39 (Q' := _) rfl rfl rfl rfl (sp_X2_at_10 L xs sio (d + 0) dt hI  p1 (by first | exact h_p1 | exact bnd h_p1 (by decide) (by decide) | exact ⟨by fail, by fail⟩) 0 ⟨by decide, by decide⟩ ) ?_
  rintro _ _ ⟨rfl, h1⟩
  refine ⟨rfl, ?_⟩
  rcases h1 with ⟨v_h1, rfl, h1r, h1⟩
  refine go_retq PM109 (k := 0) (r := some (.inl v_h1)) (w1 := (SH, dt)) rfl ?_
  exact ⟨rfl, ⟨_, rfl, (by first | exact bnd h1r (by decide) (by decide) | exact ⟨by fail, by fail⟩), trivial⟩⟩
theorem sp_X5_draw (L : Nat) (xs : Nat → Int32) (sio : Option Nat) (d : Nat) (dt : Nat → Nat → Int) (hI : InvC dt)  (p1 : Int) (h_p1 : (-2147483648) ≤ p1 ∧ p1 ≤ 2147483647)  : GO (am_XX L xs sio) (d) 110 0 [some (.inr (.inr (some 0))), some (.inl p1)] [] (SH, dt) (fun r w2 => ∃ dt2 : Nat → Nat → Int, w2 = (SH, dt2) ∧ InvC dt2 ∧ Fr [1] dt dt2 ∧ ((∃ v : Int, r = some (.inl v) ∧ ((-2147483648) ≤ v ∧ v ≤ 2147483647) ∧ (dt2 1 0 = wr (1664525 * (dt 1 0) + 1013904223))))) := by
  have hF : Fr [1] dt dt := Fr_refl
  have r1 : (-2147483648) ≤ dt 1 0 ∧ dt 1 0 ≤ 2147483647 := InvC_get hI 1 0 rfl rfl
  refine go_toq PM110 (k := 9) (pc' := 19) (L' := [some (.inr (.inr (some 0))), some (.inl p1)]) (st' := [.inl ((1664525 * (dt 1 0)) + 1013904223), .inr (.inr (some 1))]) (w' := (SH, dt)) rfl ?_
  have r2 := wr_RR ((1664525 * (dt 1 0)) + 1013904223)
  have hI3 : InvC (u2 dt 1 0 (wr ((1664525 * (dt 1 0)) + 1013904223))) := InvC_u2 hI (lo := -2147483648) (hi := 2147483647) rfl rfl rfl (by omega) (by omega)
  have hF4 : Fr [1] dt (u2 dt 1 0 (wr ((1664525 * (dt 1 0)) + 1013904223))) := Fr_u2 hF (by decide)
  have w5 : (u2 dt 1 0 (wr ((1664525 * (dt 1 0)) + 1013904223))) 1 0 = wr ((1664525 * (dt 1 0)) + 1013904223) := rfl
  refine go_smpq PM110 (L' := [some (.inr (.inr (some 0))), some (.inl p1)]) (st' := []) (w' := (SH, (u2 dt 1 0 (wr ((1664525 * (dt 1 0)) + 1013904223))))) rfl rfl (s_pfw rfl rfl rfl rfl) ?_
  refine go_ifq PM110 (k := 1) (p1 := 41) (p2 := 26) (L' := [some (.inr (.inr (some 0))), some (.inl p1)]) (st' := []) (w' := (SH, (u2 dt 1 0 (wr ((1664525 * (dt 1 0)) + 1013904223))))) rfl (z_le (a := p1) (by first | exact bnd h_p1 (by decide) (by decide) | exact ⟨by fail, by fail⟩)) (fun c9 => ?_) (fun c9 => ?_)
  · skip
    refine go_retq PM110 (k := 1) (r := some (.inl 0)) (w1 := (SH, (u2 dt 1 0 (wr ((1664525 * (dt 1 0)) + 1013904223))))) rfl ?_
    exact ⟨(u2 dt 1 0 (wr ((1664525 * (dt 1 0)) + 1013904223))), rfl, hI3, hF4, ⟨_, rfl, ⟨by decide, by decide⟩, by first | exact True.intro | with_reducible assumption | rfl | fail | trivial⟩⟩
  · skip
    have r10 : 0 ≤ am_ushr (wr ((1664525 * (dt 1 0)) + 1013904223)) 8 ∧ am_ushr (wr ((1664525 * (dt 1 0)) + 1013904223)) 8 ≤ 16777215 := ushr8_R
    refine go_toq PM110 (k := 6) (pc' := 37) (L' := [some (.inr (.inr (some 0))), some (.inl p1)]) (st' := [.inl p1, .inl (am_ushr (wr ((1664525 * (dt 1 0)) + 1013904223)) 8)]) (w' := (SH, (u2 dt 1 0 (wr ((1664525 * (dt 1 0)) + 1013904223))))) rfl ?_
    have r11 : 0 ≤ (am_ushr (wr ((1664525 * (dt 1 0)) + 1013904223)) 8) % p1 ∧ (am_ushr (wr ((1664525 * (dt 1 0)) + 1013904223)) 8) % p1 < p1 := mod_R (by omega)
    refine go_smpq PM110 (L' := [some (.inr (.inr (some 0))), some (.inl p1)]) (st' := [.inl ((am_ushr (wr ((1664525 * (dt 1 0)) + 1013904223)) 8) % p1)]) (w' := (SH, (u2 dt 1 0 (wr ((1664525 * (dt 1 0)) + 1013904223))))) rfl rfl (s_iremc ⟨by omega, by omega⟩ ⟨by omega, by omega⟩) ?_
    refine go_retq PM110 (k := 1) (r := some (.inl ((am_ushr (wr ((1664525 * (dt 1 0)) + 1013904223)) 8) % p1))) (w1 := (SH, (u2 dt 1 0 (wr ((1664525 * (dt 1 0)) + 1013904223))))) rfl ?_
    exact ⟨(u2 dt 1 0 (wr ((1664525 * (dt 1 0)) + 1013904223))), rfl, hI3, hF4, ⟨_, rfl, ⟨by omega, by omega⟩, by first | exact True.intro | with_reducible assumption | rfl | fail | trivial⟩⟩
theorem sp_X5_root (L : Nat) (xs : Nat → Int32) (sio : Option Nat) (d : Nat) (dt : Nat → Nat → Int) (hI : InvC dt)  (p1 : Int)  : GO (am_XX L xs sio) (d) 111 0 [some (.inl p1), none] [] (SH, dt) (fun r w2 => w2 = (SH, dt) ∧ ((∃ v : Int, r = some (.inl v) ∧ (0 ≤ v ∧ v ≤ 1000) ∧ True))) := by
  refine go_toq PM111 (k := 2) (pc' := 2) (L' := [some (.inl p1), some (.inl 0)]) (st' := []) (w' := (SH, dt)) rfl ?_
  have loop47 : ∀ (k_ : Nat) (l2_1 : Int) (i46 : 0 ≤ l2_1 ∧ l2_1 ≤ 1000), (1001 - l2_1).toNat < k_ → GO (am_XX L xs sio) (d) 111 2 [some (.inl p1), some (.inl l2_1)] [] (SH, dt) (fun r w2 => w2 = (SH, dt) ∧ ((∃ v : Int, r = some (.inl v) ∧ (0 ≤ v ∧ v ≤ 1000) ∧ True))) := by
    intro k_
    induction k_ with
    | zero => intro l2_1 i46 hm; exact absurd hm (Nat.not_lt_zero _)
    | succ k_ ih_loop47 =>
      intro l2_1 i46 hm
      have j52 :  GO (am_XX L xs sio) (d) 111 26 [none, some (.inl l2_1)] [] (SH, dt) (fun r w2 => w2 = (SH, dt) ∧ ((∃ v : Int, r = some (.inl v) ∧ (0 ≤ v ∧ v ≤ 1000) ∧ True))) := by
        skip
        refine go_retq PM111 (k := 1) (r := some (.inl l2_1)) (w1 := (SH, dt)) rfl ?_
        exact ⟨rfl, ⟨_, rfl, (by first | exact bnd i46 (by decide) (by decide) | exact ⟨by fail, by fail⟩), trivial⟩⟩
      refine go_ifq PM111 (k := 2) (p1 := 26) (p2 := 9) (L' := [some (.inl p1), some (.inl l2_1)]) (st' := []) (w' := (SH, dt)) rfl (c_ge (a := l2_1) (b := 1000) (by first | exact bnd i46 (by decide) (by decide) | exact ⟨by fail, by fail⟩) ⟨by decide, by decide⟩) (fun c53 => ?_) (fun c53 => ?_)
      · skip
        exact GO.le (j52 ) ⟨.inr ⟨rfl, trivial⟩, .inl rfl, trivial⟩
      · skip
        have r55 := wr_RR ((l2_1 + 1) * (l2_1 + 1))
        have r56 := wr_RR p1
        refine go_ifq PM111 (k := 8) (p1 := 26) (p2 := 20) (L' := [some (.inl p1), some (.inl l2_1)]) (st' := []) (w' := (SH, dt)) rfl (u_gt (a := wr ((l2_1 + 1) * (l2_1 + 1))) (b := wr p1)) (fun c54 => ?_) (fun c54 => ?_)
        · skip
          exact GO.le (j52 ) ⟨.inr ⟨rfl, trivial⟩, .inl rfl, trivial⟩
        · skip
          refine go_toq PM111 (k := 2) (pc' := 2) (L' := [some (.inl p1), some (.inl (l2_1 + 1))]) (st' := []) (w' := (SH, dt)) rfl ?_
          exact GO.le (ih_loop47 (l2_1 + 1) (by first | exact bndp i46 (by decide) (by decide) | exact bnde i46 c53 (by decide) (by decide) | fail) (by omega)) ⟨.inl rfl, .inl rfl, trivial⟩
  exact GO.le (loop47 _ 0 ⟨by decide, by decide⟩ (Nat.lt_succ_self _)) ⟨.inl rfl, .inl rfl, trivial⟩
theorem sp_X5_thousandByRoot (L : Nat) (xs : Nat → Int32) (sio : Option Nat) (d : Nat) (dt : Nat → Nat → Int) (hI : InvC dt)  (p1 : Int)  : GO (am_XX L xs sio) (d + 1) 112 0 [some (.inl p1), none] [] (SH, dt) (fun r w2 => w2 = (SH, dt) ∧ ((∃ v : Int, r = some (.inl v) ∧ (0 ≤ v ∧ v ≤ 1000) ∧ True))) := by
  refine go_toq PM112 (k := 1) (pc' := 1) (L' := [some (.inl p1), none]) (st' := [.inl p1]) (w' := (SH, dt)) rfl ?_
  refine go_callq PM112 PM111 (Q' := _) rfl rfl rfl rfl (sp_X5_root L xs sio (d + 0) dt hI  p1 ) ?_
  rintro _ _ ⟨rfl, h1⟩
  refine ⟨rfl, ?_⟩
  rcases h1 with ⟨v_h1, rfl, h1r, h1⟩
  refine go_ifq PM112 (k := 2) (p1 := 17) (p2 := 9) (L' := [some (.inl p1), some (.inl v_h1)]) (st' := []) (w' := (SH, dt)) rfl (z_le (a := v_h1) (by first | exact bnd h1r (by decide) (by decide) | exact ⟨by fail, by fail⟩)) (fun c4 => ?_) (fun c4 => ?_)
  · skip
    refine go_retq PM112 (k := 1) (r := some (.inl 1000)) (w1 := (SH, dt)) rfl ?_
    exact ⟨rfl, ⟨_, rfl, ⟨by decide, by decide⟩, trivial⟩⟩
  · skip
    refine go_toq PM112 (k := 2) (pc' := 13) (L' := [some (.inl p1), some (.inl v_h1)]) (st' := [.inl v_h1, .inl 1000]) (w' := (SH, dt)) rfl ?_
    have r5 : 0 ≤ 1000 / v_h1 ∧ 1000 / v_h1 ≤ 1000 := div_R (by omega) (by omega)
    refine go_smpq PM112 (L' := [some (.inl p1), some (.inl v_h1)]) (st' := [.inl (1000 / v_h1)]) (w' := (SH, dt)) rfl rfl (s_idivc ⟨by omega, by omega⟩ ⟨by omega, by omega⟩) ?_
    refine go_retq PM112 (k := 1) (r := some (.inl (1000 / v_h1))) (w1 := (SH, dt)) rfl ?_
    exact ⟨rfl, ⟨_, rfl, (by first | exact bnd r5 (by decide) (by decide) | exact ⟨by fail, by fail⟩), trivial⟩⟩
theorem sp_X5_play (L : Nat) (xs : Nat → Int32) (sio : Option Nat) (d : Nat) (dt : Nat → Nat → Int) (hI : InvC dt)  (p1 : Int) (h_p1 : (-2147483648) ≤ p1 ∧ p1 ≤ 2147483647)  : GO (am_XX L xs sio) (d + 4) 113 0 [some (.inr (.inr (some 0))), some (.inl p1), none] [] (SH, dt) (fun r w2 => ∃ dt2 : Nat → Nat → Int, w2 = (SH, dt2) ∧ InvC dt2 ∧ Fr [44, 45, 46, 47, 48, 49, 50, 51, 52, 53, 54, 55, 56] dt dt2 ∧ ((r = none ∧ True))) := by
  have hF : Fr [44, 45, 46, 47, 48, 49, 50, 51, 52, 53, 54, 55, 56] dt dt := Fr_refl
  refine go_toq PM113 (k := 2) (pc' := 4) (L' := [some (.inr (.inr (some 0))), some (.inl p1), none]) (st' := [.inr (.inr (some 43))]) (w' := (SH, dt)) rfl ?_
  refine go_callq PM113 PM51 (Q' := _) rfl rfl rfl rfl (sp_X4_begin L xs sio (d + 2) dt hI   ) ?_
  rintro _ _ ⟨dt2, rfl, hI3, hF4, h1⟩
  refine ⟨rfl, ?_⟩
  have hF5 : Fr [44, 45, 46, 47, 48, 49, 50, 51, 52, 53, 54, 55, 56] dt dt2 := Fr_tr hF hF4 (by decide)
  rcases h1 with ⟨rfl, h1⟩
  refine go_toq PM113 (k := 1) (pc' := 8) (L' := [some (.inr (.inr (some 0))), some (.inl p1), none]) (st' := [.inl p1]) (w' := (SH, dt2)) rfl ?_
  refine go_callq PM113 PM102 (Q' := _) rfl rfl rfl rfl (sp_X5_isScene L xs sio (d + 2) dt2 hI3  p1 (by first | exact h_p1 | exact bnd h_p1 (by decide) (by decide) | exact ⟨by fail, by fail⟩) ) ?_
  rintro _ _ ⟨rfl, h6⟩
  refine ⟨rfl, ?_⟩
  rcases h6 with ⟨rfl, h6⟩ | ⟨rfl, h6⟩
  · skip
    refine go_toq PM113 (k := 3) (pc' := 17) (L' := [some (.inr (.inr (some 0))), some (.inl p1), some (.inl 0)]) (st' := []) (w' := (SH, dt2)) rfl ?_
    have loop91 : ∀ (k_ : Nat) (l17_2 : Int) (dt87 : Nat → Nat → Int) (hI88 : InvC dt87) (hF89 : Fr [44, 45, 46, 47, 48, 49, 50, 51, 52, 53, 54, 55, 56] dt dt87) (i90 : 0 ≤ l17_2 ∧ l17_2 ≤ 24), (25 - l17_2).toNat < k_ → GO (am_XX L xs sio) (d + 4) 113 17 [some (.inr (.inr (some 0))), some (.inl p1), some (.inl l17_2)] [] (SH, dt87) (fun r w2 => ∃ dt2 : Nat → Nat → Int, w2 = (SH, dt2) ∧ InvC dt2 ∧ Fr [44, 45, 46, 47, 48, 49, 50, 51, 52, 53, 54, 55, 56] dt dt2 ∧ ((r = none ∧ True))) := by
      intro k_
      induction k_ with
      | zero => intro l17_2 dt87 hI88 hF89 i90 hm; exact absurd hm (Nat.not_lt_zero _)
      | succ k_ ih_loop91 =>
        intro l17_2 dt87 hI88 hF89 i90 hm
        refine go_toq PM113 (k := 5) (pc' := 26) (L' := [some (.inr (.inr (some 0))), some (.inl p1), some (.inl l17_2)]) (st' := [.inl p1, .inr (.inr (some 3)), .inl l17_2]) (w' := (SH, dt87)) rfl ?_
        have r92 : (-2147483648) ≤ dt87 3 (p1).toNat ∧ dt87 3 (p1).toNat ≤ 2147483647 := InvC_get hI88 3 (p1).toNat rfl rfl
        refine go_smpq PM113 (L' := [some (.inr (.inr (some 0))), some (.inl p1), some (.inl l17_2)]) (st' := [.inl (dt87 3 (p1).toNat), .inl l17_2]) (w' := (SH, dt87)) rfl rfl (s_iald (n := 8) (f := dt87 3) rfl (by first | exact bndx h_p1 (by decide) (by decide) | exact ⟨by omega, by omega⟩)) ?_
        have j101 :  GO (am_XX L xs sio) (d + 4) 113 63 [some (.inr (.inr (some 0))), none, none] [] (SH, dt87) (fun r w2 => ∃ dt2 : Nat → Nat → Int, w2 = (SH, dt2) ∧ InvC dt2 ∧ Fr [44, 45, 46, 47, 48, 49, 50, 51, 52, 53, 54, 55, 56] dt dt2 ∧ ((r = none ∧ True))) := by
          skip
          refine go_retq PM113 (k := 0) (r := none) (w1 := (SH, dt87)) rfl ?_
          exact ⟨dt87, rfl, hI88, hF89, ⟨rfl, trivial⟩⟩
        refine go_ifq PM113 (k := 0) (p1 := 63) (p2 := 30) (L' := [some (.inr (.inr (some 0))), some (.inl p1), some (.inl l17_2)]) (st' := []) (w' := (SH, dt87)) rfl (c_ge (a := l17_2) (b := dt87 3 (p1).toNat) (by first | exact bnd i90 (by decide) (by decide) | exact ⟨by fail, by fail⟩) (by first | exact bnd r92 (by decide) (by decide) | exact ⟨by fail, by fail⟩)) (fun c102 => ?_) (fun c102 => ?_)
        · skip
          exact GO.le (j101 ) ⟨.inl rfl, .inr ⟨rfl, trivial⟩, .inr ⟨rfl, trivial⟩, trivial⟩
        · skip
          refine go_ifq PM113 (k := 2) (p1 := 63) (p2 := 36) (L' := [some (.inr (.inr (some 0))), some (.inl p1), some (.inl l17_2)]) (st' := []) (w' := (SH, dt87)) rfl (c_ge (a := l17_2) (b := 24) (by first | exact bnd i90 (by decide) (by decide) | exact bndd i90 c102 (by decide) (by decide) | exact ⟨by fail, by fail⟩) ⟨by decide, by decide⟩) (fun c103 => ?_) (fun c103 => ?_)
          · skip
            exact GO.le (j101 ) ⟨.inl rfl, .inr ⟨rfl, trivial⟩, .inr ⟨rfl, trivial⟩, trivial⟩
          · skip
            refine go_toq PM113 (k := 10) (pc' := 53) (L' := [some (.inr (.inr (some 0))), some (.inl p1), some (.inl l17_2)]) (st' := [.inl ((p1 * 24) + l17_2), .inr (.inr (some 2)), .inr (.inr (some 43))]) (w' := (SH, dt87)) rfl ?_
            have r104 : (-2147483648) ≤ dt87 2 (((p1 * 24) + l17_2).toNat) ∧ dt87 2 (((p1 * 24) + l17_2).toNat) ≤ 2147483647 := InvC_get hI88 2 (((p1 * 24) + l17_2).toNat) rfl rfl
            refine go_smpq PM113 (L' := [some (.inr (.inr (some 0))), some (.inl p1), some (.inl l17_2)]) (st' := [.inl (dt87 2 (((p1 * 24) + l17_2).toNat)), .inr (.inr (some 43))]) (w' := (SH, dt87)) rfl rfl (s_iald (n := 192) (f := dt87 2) rfl ⟨by omega, by omega⟩) ?_
            refine go_callq PM113 PM53 (Q' := _) rfl rfl rfl rfl (sp_X4_act_43 L xs sio (d + 0) dt87 hI88  (dt87 2 (((p1 * 24) + l17_2).toNat)) (by first | exact bnd r104 (by decide) (by decide) | exact ⟨by fail, by fail⟩) ) ?_
            rintro _ _ ⟨dt106, rfl, hI107, hF108, h105⟩
            refine ⟨rfl, ?_⟩
            have hF109 : Fr [44, 45, 46, 47, 48, 49, 50, 51, 52, 53, 54, 55, 56] dt dt106 := Fr_tr hF89 hF108 (by decide)
            rcases h105 with ⟨rfl, h105⟩
            refine go_toq PM113 (k := 2) (pc' := 17) (L' := [some (.inr (.inr (some 0))), some (.inl p1), some (.inl (l17_2 + 1))]) (st' := []) (w' := (SH, dt106)) rfl ?_
            exact GO.le (ih_loop91 (l17_2 + 1) dt106 hI107 hF109 (by first | exact bndp i90 (by decide) (by decide) | exact bnde i90 c103 (by decide) (by decide) | fail) (by omega)) ⟨.inl rfl, .inl rfl, .inl rfl, trivial⟩
    exact GO.le (loop91 _ 0 dt2 hI3 hF5 ⟨by decide, by decide⟩ (Nat.lt_succ_self _)) ⟨.inl rfl, .inl rfl, .inl rfl, trivial⟩
  · skip
    refine go_retq PM113 (k := 1) (r := none) (w1 := (SH, dt2)) rfl ?_
    exact ⟨dt2, rfl, hI3, hF5, ⟨rfl, trivial⟩⟩
theorem sp_X5_isTelling (L : Nat) (xs : Nat → Int32) (sio : Option Nat) (d : Nat) (dt : Nat → Nat → Int) (hI : InvC dt)  (p1 : Int) (h_p1 : (-2147483648) ≤ p1 ∧ p1 ≤ 2147483647) (p2 : Int) (h_p2 : (-2147483648) ≤ p2 ∧ p2 ≤ 2147483647)  : GO (am_XX L xs sio) (d + 2) 117 0 [some (.inr (.inr (some 0))), some (.inl p1), some (.inl p2)] [] (SH, dt) (fun r w2 => w2 = (SH, dt) ∧ ((r = some (.inl 1) ∧ True) ∨ (r = some (.inl 0) ∧ True))) := by
  refine go_toq PM117 (k := 5) (pc' := 9) (L' := [some (.inr (.inr (some 0))), some (.inl p1), some (.inl p2)]) (st' := [.inl 1, .inl p1, .inr (.inr (some 7))]) (w' := (SH, dt)) rfl ?_
  refine go_callq PM117 PM39 (Q' := _) rfl rfl rfl rfl (sp_X2_at_7 L xs sio (d + 0) dt hI  p1 (by first | exact h_p1 | exact bnd h_p1 (by decide) (by decide) | exact ⟨by fail, by fail⟩) 1 ⟨by decide, by decide⟩ ) ?_
  rintro _ _ ⟨rfl, h1⟩
  refine ⟨rfl, ?_⟩
  rcases h1 with ⟨v_h1, rfl, h1r, h1⟩
  have j5 :  GO (am_XX L xs sio) (d + 2) 117 35 [some (.inr (.inr (some 0))), none, none] [.inl 0] (SH, dt) (fun r w2 => w2 = (SH, dt) ∧ ((r = some (.inl 1) ∧ True) ∨ (r = some (.inl 0) ∧ True))) := by
    skip
    refine go_retq PM117 (k := 0) (r := some (.inl 0)) (w1 := (SH, dt)) rfl ?_
    exact ⟨rfl, (Or.inr ⟨rfl, trivial⟩)⟩
  refine go_ifq PM117 (k := 1) (p1 := 34) (p2 := 16) (L' := [some (.inr (.inr (some 0))), some (.inl p1), some (.inl p2)]) (st' := []) (w' := (SH, dt)) rfl (c_ne (a := v_h1) (b := p2) (by first | exact bnd h1r (by decide) (by decide) | exact ⟨by fail, by fail⟩) (by first | exact bnd h_p2 (by decide) (by decide) | exact ⟨by fail, by fail⟩)) (fun c6 => ?_) (fun c6 => ?_)
  · skip
    replace c6 := hid c6
    refine go_toq PM117 (k := 1) (pc' := 35) (L' := [some (.inr (.inr (some 0))), some (.inl p1), some (.inl p2)]) (st' := [.inl 0]) (w' := (SH, dt)) rfl ?_
    exact GO.le (j5 ) ⟨.inl rfl, .inr ⟨rfl, trivial⟩, .inr ⟨rfl, trivial⟩, trivial⟩
  · skip
    refine go_toq PM117 (k := 4) (pc' := 23) (L' := [some (.inr (.inr (some 0))), some (.inl p1), some (.inl p2)]) (st' := [.inl 9, .inl p1, .inr (.inr (some 1))]) (w' := (SH, dt)) rfl ?_
    refine go_callq PM117 PM1 (Q' := _) rfl rfl rfl rfl (sp_X0_saidOf L xs sio (d + 0) dt hI  p1 (by first | exact h_p1 | exact bnd h_p1 (by decide) (by decide) | exact ⟨by fail, by fail⟩) 9 ⟨by decide, by decide⟩ ) ?_
    rintro _ _ ⟨rfl, h7⟩
    refine ⟨rfl, ?_⟩
    rcases h7 with ⟨v_h7, rfl, h7r, h7⟩
    refine go_ifq PM117 (k := 1) (p1 := 34) (p2 := 30) (L' := [some (.inr (.inr (some 0))), some (.inl p1), some (.inl p2)]) (st' := []) (w' := (SH, dt)) rfl (c_ne (a := v_h7) (b := 1) (by first | exact bnd h7r (by decide) (by decide) | exact ⟨by fail, by fail⟩) ⟨by decide, by decide⟩) (fun c8 => ?_) (fun c8 => ?_)
    · skip
      replace c8 := hid c8
      refine go_toq PM117 (k := 1) (pc' := 35) (L' := [some (.inr (.inr (some 0))), some (.inl p1), some (.inl p2)]) (st' := [.inl 0]) (w' := (SH, dt)) rfl ?_
      exact GO.le (j5 ) ⟨.inl rfl, .inr ⟨rfl, trivial⟩, .inr ⟨rfl, trivial⟩, trivial⟩
    · skip
      refine go_retq PM117 (k := 2) (r := some (.inl 1)) (w1 := (SH, dt)) rfl ?_
      exact ⟨rfl, (Or.inl ⟨rfl, trivial⟩)⟩
theorem sp_X5_weigh (L : Nat) (xs : Nat → Int32) (sio : Option Nat) (d : Nat) (dt : Nat → Nat → Int) (hI : InvC dt)  (p1 : Int) (h_p1 : (-2147483648) ≤ p1 ∧ p1 ≤ 2147483647) (p2 : Int) (h_p2 : (-2147483648) ≤ p2 ∧ p2 ≤ 2147483647) (p3 : Int) (h_p3 : (-2147483648) ≤ p3 ∧ p3 ≤ 2147483647) (p4 : Int) (h_p4 : (-2147483648) ≤ p4 ∧ p4 ≤ 2147483647)  : GO (am_XX L xs sio) (d + 4) 118 0 [some (.inr (.inr (some 0))), some (.inl p1), some (.inl p2), some (.inl p3), some (.inl p4)] [] (SH, dt) (fun r w2 => ∃ dt2 : Nat → Nat → Int, w2 = (SH, dt2) ∧ InvC dt2 ∧ Fr [71, 72, 73, 74] dt dt2 ∧ ((r = none ∧ True))) := by
  have hF : Fr [71, 72, 73, 74] dt dt := Fr_refl
  refine go_toq PM118 (k := 8) (pc' := 14) (L' := [some (.inr (.inr (some 0))), some (.inl p1), some (.inl p2), some (.inl p3), some (.inl p4)]) (st' := [.inl 1, .inl p2, .inr (.inr (some 10)), .inl 0, .inr (.inr (some 71))]) (w' := (SH, dt)) rfl ?_
  refine go_callq PM118 PM39 (Q' := _) rfl rfl rfl rfl (sp_X2_at_10 L xs sio (d + 2) dt hI  p2 (by first | exact h_p2 | exact bnd h_p2 (by decide) (by decide) | exact ⟨by fail, by fail⟩) 1 ⟨by decide, by decide⟩ ) ?_
  rintro _ _ ⟨rfl, h1⟩
  refine ⟨rfl, ?_⟩
  rcases h1 with ⟨v_h1, rfl, h1r, h1⟩
  refine go_callq PM118 PM44 (Q' := _) rfl rfl rfl rfl (sp_X3_give L xs sio (d + 3) dt hI  0 ⟨by decide, by decide⟩ v_h1 (by first | exact bnd h1r (by decide) (by decide) | exact ⟨by fail, by fail⟩) ) ?_
  rintro _ _ ⟨dt3, rfl, hI4, hF5, h2⟩
  refine ⟨rfl, ?_⟩
  have hF6 : Fr [71, 72, 73, 74] dt dt3 := Fr_tr hF hF5 (by decide)
  rcases h2 with ⟨rfl, h2⟩
  refine go_toq PM118 (k := 8) (pc' := 34) (L' := [some (.inr (.inr (some 0))), some (.inl p1), some (.inl p2), some (.inl p3), some (.inl p4)]) (st' := [.inl 2, .inl p2, .inr (.inr (some 10)), .inl 1, .inr (.inr (some 71))]) (w' := (SH, dt3)) rfl ?_
  refine go_callq PM118 PM39 (Q' := _) rfl rfl rfl rfl (sp_X2_at_10 L xs sio (d + 2) dt3 hI4  p2 (by first | exact h_p2 | exact bnd h_p2 (by decide) (by decide) | exact ⟨by fail, by fail⟩) 2 ⟨by decide, by decide⟩ ) ?_
  rintro _ _ ⟨rfl, h7⟩
  refine ⟨rfl, ?_⟩
  rcases h7 with ⟨v_h7, rfl, h7r, h7⟩
  refine go_callq PM118 PM44 (Q' := _) rfl rfl rfl rfl (sp_X3_give L xs sio (d + 3) dt3 hI4  1 ⟨by decide, by decide⟩ v_h7 (by first | exact bnd h7r (by decide) (by decide) | exact ⟨by fail, by fail⟩) ) ?_
  rintro _ _ ⟨dt9, rfl, hI10, hF11, h8⟩
  refine ⟨rfl, ?_⟩
  have hF12 : Fr [71, 72, 73, 74] dt dt9 := Fr_tr hF6 hF11 (by decide)
  rcases h8 with ⟨rfl, h8⟩
  refine go_toq PM118 (k := 4) (pc' := 47) (L' := [some (.inr (.inr (some 0))), some (.inl p1), some (.inl p2), some (.inl p3), some (.inl p4)]) (st' := [.inl p4, .inl 2, .inr (.inr (some 71))]) (w' := (SH, dt9)) rfl ?_
  refine go_callq PM118 PM44 (Q' := _) rfl rfl rfl rfl (sp_X3_give L xs sio (d + 3) dt9 hI10  2 ⟨by decide, by decide⟩ p4 (by first | exact h_p4 | exact bnd h_p4 (by decide) (by decide) | exact ⟨by fail, by fail⟩) ) ?_
  rintro _ _ ⟨dt14, rfl, hI15, hF16, h13⟩
  refine ⟨rfl, ?_⟩
  have hF17 : Fr [71, 72, 73, 74] dt dt14 := Fr_tr hF12 hF16 (by decide)
  rcases h13 with ⟨rfl, h13⟩
  refine go_toq PM118 (k := 7) (pc' := 62) (L' := [some (.inr (.inr (some 0))), some (.inl p1), some (.inl p2), some (.inl p3), some (.inl p4)]) (st' := [.inl 10, .inl p3, .inr (.inr (some 1)), .inl 3, .inr (.inr (some 71))]) (w' := (SH, dt14)) rfl ?_
  refine go_callq PM118 PM1 (Q' := _) rfl rfl rfl rfl (sp_X0_saidOf L xs sio (d + 2) dt14 hI15  p3 (by first | exact h_p3 | exact bnd h_p3 (by decide) (by decide) | exact ⟨by fail, by fail⟩) 10 ⟨by decide, by decide⟩ ) ?_
  rintro _ _ ⟨rfl, h18⟩
  refine ⟨rfl, ?_⟩
  rcases h18 with ⟨v_h18, rfl, h18r, h18⟩
  refine go_callq PM118 PM44 (Q' := _) rfl rfl rfl rfl (sp_X3_give L xs sio (d + 3) dt14 hI15  3 ⟨by decide, by decide⟩ v_h18 (by first | exact bnd h18r (by decide) (by decide) | exact ⟨by fail, by fail⟩) ) ?_
  rintro _ _ ⟨dt20, rfl, hI21, hF22, h19⟩
  refine ⟨rfl, ?_⟩
  have hF23 : Fr [71, 72, 73, 74] dt dt20 := Fr_tr hF17 hF22 (by decide)
  rcases h19 with ⟨rfl, h19⟩
  refine go_toq PM118 (k := 8) (pc' := 82) (L' := [some (.inr (.inr (some 0))), some (.inl p1), some (.inl p2), some (.inl p3), some (.inl p4)]) (st' := [.inl 3, .inl p2, .inr (.inr (some 10)), .inl 4, .inr (.inr (some 71))]) (w' := (SH, dt20)) rfl ?_
  refine go_callq PM118 PM39 (Q' := _) rfl rfl rfl rfl (sp_X2_at_10 L xs sio (d + 2) dt20 hI21  p2 (by first | exact h_p2 | exact bnd h_p2 (by decide) (by decide) | exact ⟨by fail, by fail⟩) 3 ⟨by decide, by decide⟩ ) ?_
  rintro _ _ ⟨rfl, h24⟩
  refine ⟨rfl, ?_⟩
  rcases h24 with ⟨v_h24, rfl, h24r, h24⟩
  refine go_callq PM118 PM44 (Q' := _) rfl rfl rfl rfl (sp_X3_give L xs sio (d + 3) dt20 hI21  4 ⟨by decide, by decide⟩ v_h24 (by first | exact bnd h24r (by decide) (by decide) | exact ⟨by fail, by fail⟩) ) ?_
  rintro _ _ ⟨dt26, rfl, hI27, hF28, h25⟩
  refine ⟨rfl, ?_⟩
  have hF29 : Fr [71, 72, 73, 74] dt dt26 := Fr_tr hF23 hF28 (by decide)
  rcases h25 with ⟨rfl, h25⟩
  refine go_toq PM118 (k := 8) (pc' := 102) (L' := [some (.inr (.inr (some 0))), some (.inl p1), some (.inl p2), some (.inl p3), some (.inl p4)]) (st' := [.inl 1, .inl p3, .inr (.inr (some 7)), .inl 5, .inr (.inr (some 71))]) (w' := (SH, dt26)) rfl ?_
  refine go_callq PM118 PM39 (Q' := _) rfl rfl rfl rfl (sp_X2_at_7 L xs sio (d + 2) dt26 hI27  p3 (by first | exact h_p3 | exact bnd h_p3 (by decide) (by decide) | exact ⟨by fail, by fail⟩) 1 ⟨by decide, by decide⟩ ) ?_
  rintro _ _ ⟨rfl, h30⟩
  refine ⟨rfl, ?_⟩
  rcases h30 with ⟨v_h30, rfl, h30r, h30⟩
  refine go_ifq PM118 (k := 1) (p1 := 113) (p2 := 109) (L' := [some (.inr (.inr (some 0))), some (.inl p1), some (.inl p2), some (.inl p3), some (.inl p4)]) (st' := [.inl 5, .inr (.inr (some 71))]) (w' := (SH, dt26)) rfl (c_ne (a := v_h30) (b := 1) (by first | exact bnd h30r (by decide) (by decide) | exact ⟨by fail, by fail⟩) ⟨by decide, by decide⟩) (fun c32 => ?_) (fun c32 => ?_)
  · skip
    replace c32 := hid c32
    refine go_toq PM118 (k := 1) (pc' := 114) (L' := [some (.inr (.inr (some 0))), some (.inl p1), some (.inl p2), some (.inl p3), some (.inl p4)]) (st' := [.inl 0, .inl 5, .inr (.inr (some 71))]) (w' := (SH, dt26)) rfl ?_
    refine go_callq PM118 PM44 (Q' := _) rfl rfl rfl rfl (sp_X3_give L xs sio (d + 3) dt26 hI27  5 ⟨by decide, by decide⟩ 0 ⟨by decide, by decide⟩ ) ?_
    rintro _ _ ⟨dt34, rfl, hI35, hF36, h33⟩
    refine ⟨rfl, ?_⟩
    have hF37 : Fr [71, 72, 73, 74] dt dt34 := Fr_tr hF29 hF36 (by decide)
    rcases h33 with ⟨rfl, h33⟩
    refine go_toq PM118 (k := 5) (pc' := 126) (L' := [some (.inr (.inr (some 0))), some (.inl p1), some (.inl p2), some (.inl p3), some (.inl p4)]) (st' := [.inl p1, .inr (.inr (some 1)), .inr (.inr (some 71))]) (w' := (SH, dt34)) rfl ?_
    refine go_callq PM118 PM45 (Q' := _) rfl rfl rfl rfl (sp_X3_weigh L xs sio (d + 0) dt34 hI35  p1 (by first | exact h_p1 | exact bnd h_p1 (by decide) (by decide) | exact ⟨by fail, by fail⟩) ) ?_
    rintro _ _ ⟨dt39, rfl, hI40, hF41, h38⟩
    refine ⟨rfl, ?_⟩
    have hF42 : Fr [71, 72, 73, 74] dt dt39 := Fr_tr hF37 hF41 (by decide)
    rcases h38 with ⟨rfl, h38⟩
    refine go_retq PM118 (k := 0) (r := none) (w1 := (SH, dt39)) rfl ?_
    exact ⟨dt39, rfl, hI40, hF42, ⟨rfl, trivial⟩⟩
  · skip
    refine go_toq PM118 (k := 2) (pc' := 114) (L' := [some (.inr (.inr (some 0))), some (.inl p1), some (.inl p2), some (.inl p3), some (.inl p4)]) (st' := [.inl 1, .inl 5, .inr (.inr (some 71))]) (w' := (SH, dt26)) rfl ?_
    refine go_callq PM118 PM44 (Q' := _) rfl rfl rfl rfl (sp_X3_give L xs sio (d + 3) dt26 hI27  5 ⟨by decide, by decide⟩ 1 ⟨by decide, by decide⟩ ) ?_
    rintro _ _ ⟨dt44, rfl, hI45, hF46, h43⟩
    refine ⟨rfl, ?_⟩
    have hF47 : Fr [71, 72, 73, 74] dt dt44 := Fr_tr hF29 hF46 (by decide)
    rcases h43 with ⟨rfl, h43⟩
    refine go_toq PM118 (k := 5) (pc' := 126) (L' := [some (.inr (.inr (some 0))), some (.inl p1), some (.inl p2), some (.inl p3), some (.inl p4)]) (st' := [.inl p1, .inr (.inr (some 1)), .inr (.inr (some 71))]) (w' := (SH, dt44)) rfl ?_
    refine go_callq PM118 PM45 (Q' := _) rfl rfl rfl rfl (sp_X3_weigh L xs sio (d + 0) dt44 hI45  p1 (by first | exact h_p1 | exact bnd h_p1 (by decide) (by decide) | exact ⟨by fail, by fail⟩) ) ?_
    rintro _ _ ⟨dt49, rfl, hI50, hF51, h48⟩
    refine ⟨rfl, ?_⟩
    have hF52 : Fr [71, 72, 73, 74] dt dt49 := Fr_tr hF47 hF51 (by decide)
    rcases h48 with ⟨rfl, h48⟩
    refine go_retq PM118 (k := 0) (r := none) (w1 := (SH, dt49)) rfl ?_
    exact ⟨dt49, rfl, hI50, hF52, ⟨rfl, trivial⟩⟩
theorem sp_X5_weighedChance (L : Nat) (xs : Nat → Int32) (sio : Option Nat) (d : Nat) (dt : Nat → Nat → Int) (hI : InvC dt)  (p1 : Int) (h_p1 : (-2147483648) ≤ p1 ∧ p1 ≤ 2147483647) (p2 : Int) (h_p2 : (-2147483648) ≤ p2 ∧ p2 ≤ 2147483647)  : GO (am_XX L xs sio) (d + 2) 119 0 [some (.inr (.inr (some 0))), some (.inl p1), some (.inl p2), none, none, none, none] [] (SH, dt) (fun r w2 => w2 = (SH, dt) ∧ ((∃ v : Int, r = some (.inl v) ∧ True ∧ True))) := by
  have r1 : 0 ≤ dt 71 1 ∧ dt 71 1 ≤ 792 := InvC_get hI 71 1 rfl rfl
  refine go_ifq PM119 (k := 7) (p1 := 32) (p2 := 15) (L' := [some (.inr (.inr (some 0))), some (.inl p1), some (.inl p2), some (.inl (dt 71 1)), some (.inl 0), none, none]) (st' := []) (w' := (SH, dt)) rfl (z_ne (a := dt 71 1) (by first | exact bnd r1 (by decide) (by decide) | exact ⟨by fail, by fail⟩)) (fun c50 => ?_) (fun c50 => ?_)
  · skip
    have qc50 : 1 ≤ dt 71 1 := by omega
    replace c50 := hid c50
    refine go_toq PM119 (k := 2) (pc' := 35) (L' := [some (.inr (.inr (some 0))), some (.inl p1), some (.inl p2), some (.inl (dt 71 1)), some (.inl 0), some (.inl 0), none]) (st' := []) (w' := (SH, dt)) rfl ?_
    have loop92 : ∀ (k_ : Nat) (l35_4 : Int) (l35_5 : Int) (i91 : 0 ≤ l35_5 ∧ l35_5 ≤ 8), (9 - l35_5).toNat < k_ → GO (am_XX L xs sio) (d + 2) 119 35 [some (.inr (.inr (some 0))), some (.inl p1), some (.inl p2), some (.inl (dt 71 1)), some (.inl l35_4), some (.inl l35_5), none] [] (SH, dt) (fun r w2 => w2 = (SH, dt) ∧ ((∃ v : Int, r = some (.inl v) ∧ True ∧ True))) := by
      intro k_
      induction k_ with
      | zero => intro l35_4 l35_5 i91 hm; exact absurd hm (Nat.not_lt_zero _)
      | succ k_ ih_loop92 =>
        intro l35_4 l35_5 i91 hm
        refine go_ifq PM119 (k := 2) (p1 := 81) (p2 := 42) (L' := [some (.inr (.inr (some 0))), some (.inl p1), some (.inl p2), some (.inl (dt 71 1)), some (.inl l35_4), some (.inl l35_5), none]) (st' := []) (w' := (SH, dt)) rfl (c_ge (a := l35_5) (b := 8) (by first | exact bnd i91 (by decide) (by decide) | exact ⟨by fail, by fail⟩) ⟨by decide, by decide⟩) (fun c97 => ?_) (fun c97 => ?_)
        · skip
          refine go_toq PM119 (k := 4) (pc' := 90) (L' := [some (.inr (.inr (some 0))), some (.inl p1), some (.inl p2), some (.inl (dt 71 1)), some (.inl l35_4), some (.inl l35_5), none]) (st' := [.inl 8, .inr (.inr (some 72))]) (w' := (SH, dt)) rfl ?_
          have r98 : 0 ≤ dt 72 8 ∧ dt 72 8 ≤ 100 := InvC_get hI 72 8 rfl rfl
          refine go_smpq PM119 (L' := [some (.inr (.inr (some 0))), some (.inl p1), some (.inl p2), some (.inl (dt 71 1)), some (.inl l35_4), some (.inl l35_5), none]) (st' := [.inl (dt 72 8)]) (w' := (SH, dt)) rfl rfl (s_iald (n := 9) (f := dt 72) rfl ⟨by decide, by decide⟩) ?_
          refine go_toq PM119 (k := 12) (pc' := 110) (L' := [some (.inr (.inr (some 0))), some (.inl p1), some (.inl p2), some (.inl (dt 71 1)), some (.inl l35_4), some (.inl (dt 72 8)), some (.inl ((100 - (dt 72 8)) * l35_4))]) (st' := [.inl 0, .inl p1, .inr (.inr (some 1)), .inl p2]) (w' := (SH, dt)) rfl ?_
          refine go_callq PM119 PM1 (Q' := _) rfl rfl rfl rfl (sp_X0_saidOf L xs sio (d + 0) dt hI  p1 (by first | exact h_p1 | exact bnd h_p1 (by decide) (by decide) | exact ⟨by fail, by fail⟩) 0 ⟨by decide, by decide⟩ ) ?_
          rintro _ _ ⟨rfl, h99⟩
          refine ⟨rfl, ?_⟩
          rcases h99 with ⟨v_h99, rfl, h99r, h99⟩
          have j101 : ∀ (j101_a6 : Int), GO (am_XX L xs sio) (d + 2) 119 125 [some (.inr (.inr (some 0))), none, none, some (.inl (dt 71 1)), none, none, some (.inl j101_a6)] [] (SH, dt) (fun r w2 => w2 = (SH, dt) ∧ ((∃ v : Int, r = some (.inl v) ∧ True ∧ True))) := by
            intro j101_a6
            refine go_ifq PM119 (k := 1) (p1 := 139) (p2 := 129) (L' := [some (.inr (.inr (some 0))), none, none, some (.inl (dt 71 1)), none, none, some (.inl j101_a6)]) (st' := []) (w' := (SH, dt)) rfl (z_le (a := dt 71 1) (by first | exact bnd r1 (by decide) (by decide) | exact ⟨by fail, by fail⟩)) (fun c103 => ?_) (fun c103 => ?_)
            · exfalso; omega
            · skip
              refine go_toq PM119 (k := 4) (pc' := 135) (L' := [some (.inr (.inr (some 0))), none, none, some (.inl (dt 71 1)), none, none, some (.inl j101_a6)]) (st' := [.inl (dt 71 1), .inl (j101_a6 * 10)]) (w' := (SH, dt)) rfl ?_
              refine go_smpq PM119 (L' := [some (.inr (.inr (some 0))), none, none, some (.inl (dt 71 1)), none, none, some (.inl j101_a6)]) (st' := [.inl ((wr (j101_a6 * 10)).tdiv (wr (dt 71 1)))]) (w' := (SH, dt)) rfl rfl (s_idiv (by rw [wr_R ⟨by omega, by omega⟩]; omega)) ?_
              refine go_retq PM119 (k := 1) (r := some (.inl ((wr (j101_a6 * 10)).tdiv (wr (dt 71 1))))) (w1 := (SH, dt)) rfl ?_
              exact ⟨rfl, ⟨_, rfl, trivial, trivial⟩⟩
          refine go_ifq PM119 (k := 0) (p1 := 125) (p2 := 116) (L' := [some (.inr (.inr (some 0))), some (.inl p1), some (.inl p2), some (.inl (dt 71 1)), some (.inl l35_4), some (.inl (dt 72 8)), some (.inl ((100 - (dt 72 8)) * l35_4))]) (st' := []) (w' := (SH, dt)) rfl (c_ne (a := p2) (b := v_h99) (by first | exact bnd h_p2 (by decide) (by decide) | exact ⟨by fail, by fail⟩) (by first | exact bnd h99r (by decide) (by decide) | exact ⟨by fail, by fail⟩)) (fun c104 => ?_) (fun c104 => ?_)
          · skip
            replace c104 := hid c104
            exact GO.le (j101 ((100 - (dt 72 8)) * l35_4)) ⟨.inl rfl, .inr ⟨rfl, trivial⟩, .inr ⟨rfl, trivial⟩, .inl rfl, .inr ⟨rfl, trivial⟩, .inr ⟨rfl, trivial⟩, .inl rfl, trivial⟩
          · skip
            refine go_toq PM119 (k := 6) (pc' := 125) (L' := [some (.inr (.inr (some 0))), some (.inl p1), some (.inl p2), some (.inl (dt 71 1)), some (.inl l35_4), some (.inl (dt 72 8)), some (.inl (((100 - (dt 72 8)) * l35_4) + ((dt 72 8) * (dt 71 1))))]) (st' := []) (w' := (SH, dt)) rfl ?_
            exact GO.le (j101 (((100 - (dt 72 8)) * l35_4) + ((dt 72 8) * (dt 71 1)))) ⟨.inl rfl, .inr ⟨rfl, trivial⟩, .inr ⟨rfl, trivial⟩, .inl rfl, .inr ⟨rfl, trivial⟩, .inr ⟨rfl, trivial⟩, .inl rfl, trivial⟩
        · skip
          refine go_toq PM119 (k := 5) (pc' := 51) (L' := [some (.inr (.inr (some 0))), some (.inl p1), some (.inl p2), some (.inl (dt 71 1)), some (.inl l35_4), some (.inl l35_5), none]) (st' := [.inl l35_5, .inl p1, .inr (.inr (some 1)), .inl l35_4]) (w' := (SH, dt)) rfl ?_
          refine go_callq PM119 PM1 (Q' := _) rfl rfl rfl rfl (sp_X0_saidOf L xs sio (d + 0) dt hI  p1 (by first | exact h_p1 | exact bnd h_p1 (by decide) (by decide) | exact ⟨by fail, by fail⟩) l35_5 (by first | exact bnd i91 (by decide) (by decide) | exact bndd i91 c97 (by decide) (by decide) | exact ⟨by fail, by fail⟩) ) ?_
          rintro _ _ ⟨rfl, h105⟩
          refine ⟨rfl, ?_⟩
          rcases h105 with ⟨v_h105, rfl, h105r, h105⟩
          refine go_ifq PM119 (k := 1) (p1 := 71) (p2 := 58) (L' := [some (.inr (.inr (some 0))), some (.inl p1), some (.inl p2), some (.inl (dt 71 1)), some (.inl l35_4), some (.inl l35_5), none]) (st' := [.inl l35_4]) (w' := (SH, dt)) rfl (c_ne (a := v_h105) (b := p2) (by first | exact bnd h105r (by decide) (by decide) | exact ⟨by fail, by fail⟩) (by first | exact bnd h_p2 (by decide) (by decide) | exact ⟨by fail, by fail⟩)) (fun c108 => ?_) (fun c108 => ?_)
          · skip
            replace c108 := hid c108
            refine go_toq PM119 (k := 5) (pc' := 35) (L' := [some (.inr (.inr (some 0))), some (.inl p1), some (.inl p2), some (.inl (dt 71 1)), some (.inl (l35_4 + 0)), some (.inl (l35_5 + 1)), none]) (st' := []) (w' := (SH, dt)) rfl ?_
            exact GO.le (ih_loop92 (l35_4 + 0) (l35_5 + 1) (by first | exact bndp i91 (by decide) (by decide) | exact bnde i91 c97 (by decide) (by decide) | fail) (by omega)) ⟨.inl rfl, .inl rfl, .inl rfl, .inl rfl, .inl rfl, .inl rfl, .inl rfl, trivial⟩
          · skip
            refine go_toq PM119 (k := 4) (pc' := 67) (L' := [some (.inr (.inr (some 0))), some (.inl p1), some (.inl p2), some (.inl (dt 71 1)), some (.inl l35_4), some (.inl l35_5), none]) (st' := [.inl l35_5, .inr (.inr (some 72)), .inl l35_4]) (w' := (SH, dt)) rfl ?_
            have r109 : 0 ≤ dt 72 (l35_5).toNat ∧ dt 72 (l35_5).toNat ≤ 100 := InvC_get hI 72 (l35_5).toNat rfl rfl
            refine go_smpq PM119 (L' := [some (.inr (.inr (some 0))), some (.inl p1), some (.inl p2), some (.inl (dt 71 1)), some (.inl l35_4), some (.inl l35_5), none]) (st' := [.inl (dt 72 (l35_5).toNat), .inl l35_4]) (w' := (SH, dt)) rfl rfl (s_iald (n := 9) (f := dt 72) rfl (by first | exact bndc i91 c97 (by decide) (by decide) | exact bndx i91 (by decide) (by decide) | exact ⟨by fail, by fail⟩)) ?_
            refine go_toq PM119 (k := 5) (pc' := 35) (L' := [some (.inr (.inr (some 0))), some (.inl p1), some (.inl p2), some (.inl (dt 71 1)), some (.inl (l35_4 + (dt 72 (l35_5).toNat))), some (.inl (l35_5 + 1)), none]) (st' := []) (w' := (SH, dt)) rfl ?_
            exact GO.le (ih_loop92 (l35_4 + (dt 72 (l35_5).toNat)) (l35_5 + 1) (by first | exact bndp i91 (by decide) (by decide) | exact bnde i91 c97 (by decide) (by decide) | fail) (by omega)) ⟨.inl rfl, .inl rfl, .inl rfl, .inl rfl, .inl rfl, .inl rfl, .inl rfl, trivial⟩
    exact GO.le (loop92 _ 0 0 ⟨by decide, by decide⟩ (Nat.lt_succ_self _)) ⟨.inl rfl, .inl rfl, .inl rfl, .inl rfl, .inl rfl, .inl rfl, .inl rfl, trivial⟩
  · skip
    refine go_ifq PM119 (k := 4) (p1 := 26) (p2 := 22) (L' := [some (.inr (.inr (some 0))), some (.inl p1), some (.inl p2), some (.inl 4), some (.inl 0), none, none]) (st' := []) (w' := (SH, dt)) rfl (c_ne (a := p2) (b := (-1)) (by first | exact bnd h_p2 (by decide) (by decide) | exact ⟨by fail, by fail⟩) ⟨by decide, by decide⟩) (fun c111 => ?_) (fun c111 => ?_)
    · skip
      replace c111 := hid c111
      refine go_toq PM119 (k := 7) (pc' := 90) (L' := [some (.inr (.inr (some 0))), some (.inl p1), some (.inl p2), some (.inl 4), some (.inl 1), none, none]) (st' := [.inl 8, .inr (.inr (some 72))]) (w' := (SH, dt)) rfl ?_
      have r112 : 0 ≤ dt 72 8 ∧ dt 72 8 ≤ 100 := InvC_get hI 72 8 rfl rfl
      refine go_smpq PM119 (L' := [some (.inr (.inr (some 0))), some (.inl p1), some (.inl p2), some (.inl 4), some (.inl 1), none, none]) (st' := [.inl (dt 72 8)]) (w' := (SH, dt)) rfl rfl (s_iald (n := 9) (f := dt 72) rfl ⟨by decide, by decide⟩) ?_
      refine go_toq PM119 (k := 12) (pc' := 110) (L' := [some (.inr (.inr (some 0))), some (.inl p1), some (.inl p2), some (.inl 4), some (.inl 1), some (.inl (dt 72 8)), some (.inl ((100 - (dt 72 8)) * 1))]) (st' := [.inl 0, .inl p1, .inr (.inr (some 1)), .inl p2]) (w' := (SH, dt)) rfl ?_
      refine go_callq PM119 PM1 (Q' := _) rfl rfl rfl rfl (sp_X0_saidOf L xs sio (d + 0) dt hI  p1 (by first | exact h_p1 | exact bnd h_p1 (by decide) (by decide) | exact ⟨by fail, by fail⟩) 0 ⟨by decide, by decide⟩ ) ?_
      rintro _ _ ⟨rfl, h113⟩
      refine ⟨rfl, ?_⟩
      rcases h113 with ⟨v_h113, rfl, h113r, h113⟩
      have j115 : ∀ (j115_a6 : Int) (i116 : 0 ≤ j115_a6 ∧ j115_a6 ≤ 500), GO (am_XX L xs sio) (d + 2) 119 125 [some (.inr (.inr (some 0))), none, none, some (.inl 4), none, none, some (.inl j115_a6)] [] (SH, dt) (fun r w2 => w2 = (SH, dt) ∧ ((∃ v : Int, r = some (.inl v) ∧ True ∧ True))) := by
        intro j115_a6 i116
        refine go_toq PM119 (k := 6) (pc' := 135) (L' := [some (.inr (.inr (some 0))), none, none, some (.inl 4), none, none, some (.inl j115_a6)]) (st' := [.inl 4, .inl (j115_a6 * 10)]) (w' := (SH, dt)) rfl ?_
        refine go_smpq PM119 (L' := [some (.inr (.inr (some 0))), none, none, some (.inl 4), none, none, some (.inl j115_a6)]) (st' := [.inl ((j115_a6 * 10) / 4)]) (w' := (SH, dt)) rfl rfl (s_idivc ⟨by omega, by omega⟩ ⟨by omega, by omega⟩) ?_
        refine go_retq PM119 (k := 1) (r := some (.inl ((j115_a6 * 10) / 4))) (w1 := (SH, dt)) rfl ?_
        exact ⟨rfl, ⟨_, rfl, trivial, trivial⟩⟩
      refine go_ifq PM119 (k := 0) (p1 := 125) (p2 := 116) (L' := [some (.inr (.inr (some 0))), some (.inl p1), some (.inl p2), some (.inl 4), some (.inl 1), some (.inl (dt 72 8)), some (.inl ((100 - (dt 72 8)) * 1))]) (st' := []) (w' := (SH, dt)) rfl (c_ne (a := p2) (b := v_h113) (by first | exact bnd h_p2 (by decide) (by decide) | exact ⟨by fail, by fail⟩) (by first | exact bnd h113r (by decide) (by decide) | exact ⟨by fail, by fail⟩)) (fun c117 => ?_) (fun c117 => ?_)
      · skip
        replace c117 := hid c117
        exact GO.le (j115 ((100 - (dt 72 8)) * 1) (by omega)) ⟨.inl rfl, .inr ⟨rfl, trivial⟩, .inr ⟨rfl, trivial⟩, .inl rfl, .inr ⟨rfl, trivial⟩, .inr ⟨rfl, trivial⟩, .inl rfl, trivial⟩
      · skip
        refine go_toq PM119 (k := 6) (pc' := 125) (L' := [some (.inr (.inr (some 0))), some (.inl p1), some (.inl p2), some (.inl 4), some (.inl 1), some (.inl (dt 72 8)), some (.inl (((100 - (dt 72 8)) * 1) + ((dt 72 8) * 4)))]) (st' := []) (w' := (SH, dt)) rfl ?_
        exact GO.le (j115 (((100 - (dt 72 8)) * 1) + ((dt 72 8) * 4)) (by omega)) ⟨.inl rfl, .inr ⟨rfl, trivial⟩, .inr ⟨rfl, trivial⟩, .inl rfl, .inr ⟨rfl, trivial⟩, .inr ⟨rfl, trivial⟩, .inl rfl, trivial⟩
    · skip
      refine go_toq PM119 (k := 8) (pc' := 90) (L' := [some (.inr (.inr (some 0))), some (.inl p1), some (.inl p2), some (.inl 4), some (.inl 0), none, none]) (st' := [.inl 8, .inr (.inr (some 72))]) (w' := (SH, dt)) rfl ?_
      have r118 : 0 ≤ dt 72 8 ∧ dt 72 8 ≤ 100 := InvC_get hI 72 8 rfl rfl
      refine go_smpq PM119 (L' := [some (.inr (.inr (some 0))), some (.inl p1), some (.inl p2), some (.inl 4), some (.inl 0), none, none]) (st' := [.inl (dt 72 8)]) (w' := (SH, dt)) rfl rfl (s_iald (n := 9) (f := dt 72) rfl ⟨by decide, by decide⟩) ?_
      refine go_toq PM119 (k := 12) (pc' := 110) (L' := [some (.inr (.inr (some 0))), some (.inl p1), some (.inl p2), some (.inl 4), some (.inl 0), some (.inl (dt 72 8)), some (.inl ((100 - (dt 72 8)) * 0))]) (st' := [.inl 0, .inl p1, .inr (.inr (some 1)), .inl p2]) (w' := (SH, dt)) rfl ?_
      refine go_callq PM119 PM1 (Q' := _) rfl rfl rfl rfl (sp_X0_saidOf L xs sio (d + 0) dt hI  p1 (by first | exact h_p1 | exact bnd h_p1 (by decide) (by decide) | exact ⟨by fail, by fail⟩) 0 ⟨by decide, by decide⟩ ) ?_
      rintro _ _ ⟨rfl, h119⟩
      refine ⟨rfl, ?_⟩
      rcases h119 with ⟨v_h119, rfl, h119r, h119⟩
      have j121 : ∀ (j121_a6 : Int) (i122 : 0 ≤ j121_a6 ∧ j121_a6 ≤ 400), GO (am_XX L xs sio) (d + 2) 119 125 [some (.inr (.inr (some 0))), none, none, some (.inl 4), none, none, some (.inl j121_a6)] [] (SH, dt) (fun r w2 => w2 = (SH, dt) ∧ ((∃ v : Int, r = some (.inl v) ∧ True ∧ True))) := by
        intro j121_a6 i122
        refine go_toq PM119 (k := 6) (pc' := 135) (L' := [some (.inr (.inr (some 0))), none, none, some (.inl 4), none, none, some (.inl j121_a6)]) (st' := [.inl 4, .inl (j121_a6 * 10)]) (w' := (SH, dt)) rfl ?_
        refine go_smpq PM119 (L' := [some (.inr (.inr (some 0))), none, none, some (.inl 4), none, none, some (.inl j121_a6)]) (st' := [.inl ((j121_a6 * 10) / 4)]) (w' := (SH, dt)) rfl rfl (s_idivc ⟨by omega, by omega⟩ ⟨by omega, by omega⟩) ?_
        refine go_retq PM119 (k := 1) (r := some (.inl ((j121_a6 * 10) / 4))) (w1 := (SH, dt)) rfl ?_
        exact ⟨rfl, ⟨_, rfl, trivial, trivial⟩⟩
      refine go_ifq PM119 (k := 0) (p1 := 125) (p2 := 116) (L' := [some (.inr (.inr (some 0))), some (.inl p1), some (.inl p2), some (.inl 4), some (.inl 0), some (.inl (dt 72 8)), some (.inl ((100 - (dt 72 8)) * 0))]) (st' := []) (w' := (SH, dt)) rfl (c_ne (a := p2) (b := v_h119) (by first | exact bnd h_p2 (by decide) (by decide) | exact ⟨by fail, by fail⟩) (by first | exact bnd h119r (by decide) (by decide) | exact ⟨by fail, by fail⟩)) (fun c123 => ?_) (fun c123 => ?_)
      · skip
        replace c123 := hid c123
        exact GO.le (j121 ((100 - (dt 72 8)) * 0) (by omega)) ⟨.inl rfl, .inr ⟨rfl, trivial⟩, .inr ⟨rfl, trivial⟩, .inl rfl, .inr ⟨rfl, trivial⟩, .inr ⟨rfl, trivial⟩, .inl rfl, trivial⟩
      · skip
        refine go_toq PM119 (k := 6) (pc' := 125) (L' := [some (.inr (.inr (some 0))), some (.inl p1), some (.inl p2), some (.inl 4), some (.inl 0), some (.inl (dt 72 8)), some (.inl (((100 - (dt 72 8)) * 0) + ((dt 72 8) * 4)))]) (st' := []) (w' := (SH, dt)) rfl ?_
        exact GO.le (j121 (((100 - (dt 72 8)) * 0) + ((dt 72 8) * 4)) (by omega)) ⟨.inl rfl, .inr ⟨rfl, trivial⟩, .inr ⟨rfl, trivial⟩, .inl rfl, .inr ⟨rfl, trivial⟩, .inr ⟨rfl, trivial⟩, .inl rfl, trivial⟩
theorem sp_X5_partedBy (L : Nat) (xs : Nat → Int32) (sio : Option Nat) (d : Nat) (dt : Nat → Nat → Int) (hI : InvC dt)  (p1 : Int) (h_p1 : (-2147483648) ≤ p1 ∧ p1 ≤ 2147483647) (p2 : Int) (h_p2 : (-2147483648) ≤ p2 ∧ p2 ≤ 2147483647)  : GO (am_XX L xs sio) (d + 2) 120 0 [some (.inr (.inr (some 0))), some (.inl p1), some (.inl p2), none, none] [] (SH, dt) (fun r w2 => w2 = (SH, dt) ∧ ((∃ v : Int, r = some (.inl v) ∧ (0 ≤ v ∧ v ≤ 2147483647) ∧ True))) := by
  refine go_toq PM120 (k := 4) (pc' := 5) (L' := [some (.inr (.inr (some 0))), some (.inl p1), some (.inl p2), some (.inl 0), some (.inl 0)]) (st' := []) (w' := (SH, dt)) rfl ?_
  have loop309 : ∀ (k_ : Nat) (l5_3 : Int) (l5_4 : Int) (i307 : 0 ≤ l5_3 ∧ l5_3 ≤ 2147483647) (i308 : 0 ≤ l5_4 ∧ l5_4 ≤ 12), (13 - l5_4).toNat < k_ → GO (am_XX L xs sio) (d + 2) 120 5 [some (.inr (.inr (some 0))), some (.inl p1), some (.inl p2), some (.inl l5_3), some (.inl l5_4)] [] (SH, dt) (fun r w2 => w2 = (SH, dt) ∧ ((∃ v : Int, r = some (.inl v) ∧ (0 ≤ v ∧ v ≤ 2147483647) ∧ True))) := by
    intro k_
    induction k_ with
    | zero => intro l5_3 l5_4 i307 i308 hm; exact absurd hm (Nat.not_lt_zero _)
    | succ k_ ih_loop309 =>
      intro l5_3 l5_4 i307 i308 hm
      have r310 : 0 ≤ dt 7 3 ∧ dt 7 3 ≤ 12 := InvC_get hI 7 3 rfl rfl
      refine go_ifq PM120 (k := 5) (p1 := 60) (p2 := 20) (L' := [some (.inr (.inr (some 0))), some (.inl p1), some (.inl p2), some (.inl l5_3), some (.inl l5_4)]) (st' := []) (w' := (SH, dt)) rfl (c_ge (a := l5_4) (b := dt 7 3) (by first | exact bnd i308 (by decide) (by decide) | exact ⟨by fail, by fail⟩) (by first | exact bnd r310 (by decide) (by decide) | exact ⟨by fail, by fail⟩)) (fun c318 => ?_) (fun c318 => ?_)
      · skip
        refine go_retq PM120 (k := 1) (r := some (.inl l5_3)) (w1 := (SH, dt)) rfl ?_
        exact ⟨rfl, ⟨_, rfl, (by first | exact bnd i307 (by decide) (by decide) | exact ⟨by fail, by fail⟩), trivial⟩⟩
      · skip
        refine go_toq PM120 (k := 5) (pc' := 28) (L' := [some (.inr (.inr (some 0))), some (.inl p1), some (.inl p2), some (.inl l5_3), some (.inl l5_4)]) (st' := [.inl p1, .inl l5_4, .inr (.inr (some 1)), .inl l5_3]) (w' := (SH, dt)) rfl ?_
        refine go_callq PM120 PM1 (Q' := _) rfl rfl rfl rfl (sp_X0_saidOf L xs sio (d + 0) dt hI  l5_4 (by first | exact bnd i308 (by decide) (by decide) | exact bndd i308 c318 (by decide) (by decide) | exact ⟨by fail, by fail⟩) p1 (by first | exact h_p1 | exact bnd h_p1 (by decide) (by decide) | exact ⟨by fail, by fail⟩) ) ?_
        rintro _ _ ⟨rfl, h319⟩
        refine ⟨rfl, ?_⟩
        rcases h319 with ⟨v_h319, rfl, h319r, h319⟩
        refine go_toq PM120 (k := 4) (pc' := 38) (L' := [some (.inr (.inr (some 0))), some (.inl p1), some (.inl p2), some (.inl l5_3), some (.inl l5_4)]) (st' := [.inl p2, .inl l5_4, .inr (.inr (some 1)), .inl v_h319, .inl l5_3]) (w' := (SH, dt)) rfl ?_
        refine go_callq PM120 PM1 (Q' := _) rfl rfl rfl rfl (sp_X0_saidOf L xs sio (d + 0) dt hI  l5_4 (by first | exact bnd i308 (by decide) (by decide) | exact bndd i308 c318 (by decide) (by decide) | exact ⟨by fail, by fail⟩) p2 (by first | exact h_p2 | exact bnd h_p2 (by decide) (by decide) | exact ⟨by fail, by fail⟩) ) ?_
        rintro _ _ ⟨rfl, h320⟩
        refine ⟨rfl, ?_⟩
        rcases h320 with ⟨v_h320, rfl, h320r, h320⟩
        refine go_ifq PM120 (k := 0) (p1 := 51) (p2 := 44) (L' := [some (.inr (.inr (some 0))), some (.inl p1), some (.inl p2), some (.inl l5_3), some (.inl l5_4)]) (st' := [.inl l5_3]) (w' := (SH, dt)) rfl (c_eq (a := v_h319) (b := v_h320) (by first | exact bnd h319r (by decide) (by decide) | exact ⟨by fail, by fail⟩) (by first | exact bnd h320r (by decide) (by decide) | exact ⟨by fail, by fail⟩)) (fun c323 => ?_) (fun c323 => ?_)
        · skip
          have r324 : 0 ≤ am_or l5_3 0 ∧ am_or l5_3 0 ≤ 2147483647 := am_or_N (n := 31) ⟨by omega, by omega⟩ ⟨by omega, by omega⟩ (by decide) (by decide)
          refine go_toq PM120 (k := 5) (pc' := 5) (L' := [some (.inr (.inr (some 0))), some (.inl p1), some (.inl p2), some (.inl (am_or l5_3 0)), some (.inl (l5_4 + 1))]) (st' := []) (w' := (SH, dt)) rfl ?_
          exact GO.le (ih_loop309 (am_or l5_3 0) (l5_4 + 1) (by first | exact bnd r324 (by decide) (by decide) | fail) (by first | exact bndp i308 (by decide) (by decide) | exact bnde i308 c318 (by decide) (by decide) | omega) (by omega)) ⟨.inl rfl, .inl rfl, .inl rfl, .inl rfl, .inl rfl, trivial⟩
        · skip
          replace c323 := hid c323
          have r325 : 1 ≤ am_shl 1 l5_4 ∧ am_shl 1 l5_4 ≤ 1073741824 := shl1_R ⟨by omega, by omega⟩
          have r326 : 0 ≤ am_or l5_3 (am_shl 1 l5_4) ∧ am_or l5_3 (am_shl 1 l5_4) ≤ 2147483647 := am_or_N (n := 31) ⟨by omega, by omega⟩ ⟨by omega, by omega⟩ (by decide) (by decide)
          refine go_toq PM120 (k := 8) (pc' := 5) (L' := [some (.inr (.inr (some 0))), some (.inl p1), some (.inl p2), some (.inl (am_or l5_3 (am_shl 1 l5_4))), some (.inl (l5_4 + 1))]) (st' := []) (w' := (SH, dt)) rfl ?_
          exact GO.le (ih_loop309 (am_or l5_3 (am_shl 1 l5_4)) (l5_4 + 1) (by first | exact bnd r326 (by decide) (by decide) | fail) (by first | exact bndp i308 (by decide) (by decide) | exact bnde i308 c318 (by decide) (by decide) | omega) (by omega)) ⟨.inl rfl, .inl rfl, .inl rfl, .inl rfl, .inl rfl, trivial⟩
  exact GO.le (loop309 _ 0 0 ⟨by decide, by decide⟩ ⟨by decide, by decide⟩ (Nat.lt_succ_self _)) ⟨.inl rfl, .inl rfl, .inl rfl, .inl rfl, .inl rfl, trivial⟩
theorem sp_X5_listCouples (L : Nat) (xs : Nat → Int32) (sio : Option Nat) (d : Nat) (dt : Nat → Nat → Int) (hI : InvC dt)  (p1 : Int) (h_p1 : (-2147483648) ≤ p1 ∧ p1 ≤ 2147483647)  : GO (am_XX L xs sio) (d + 3) 121 0 [some (.inr (.inr (some 0))), some (.inl p1), none, none, none, none] [] (SH, dt) (fun r w2 => ∃ dt2 : Nat → Nat → Int, w2 = (SH, dt2) ∧ InvC dt2 ∧ Fr [76] dt dt2 ∧ ((∃ v : Int, r = some (.inl v) ∧ (0 ≤ v ∧ v ≤ 511) ∧ True))) := by
  have hF : Fr [76] dt dt := Fr_refl
  refine go_toq PM121 (k := 4) (pc' := 4) (L' := [some (.inr (.inr (some 0))), some (.inl p1), some (.inl 0), some (.inl 0), none, none]) (st' := []) (w' := (SH, dt)) rfl ?_
  have loop1931 : ∀ (k_ : Nat) (l4_2 : Int) (l4_3 : Int) (dt1926 : Nat → Nat → Int) (hI1927 : InvC dt1926) (hF1928 : Fr [76] dt dt1926) (i1929 : 0 ≤ l4_2 ∧ l4_2 ≤ 28) (i1930 : 0 ≤ l4_3 ∧ l4_3 ≤ 8), (9 - l4_3).toNat < k_ → GO (am_XX L xs sio) (d + 3) 121 4 [some (.inr (.inr (some 0))), some (.inl p1), some (.inl l4_2), some (.inl l4_3), none, none] [] (SH, dt1926) (fun r w2 => ∃ dt2 : Nat → Nat → Int, w2 = (SH, dt2) ∧ InvC dt2 ∧ Fr [76] dt dt2 ∧ ((∃ v : Int, r = some (.inl v) ∧ (0 ≤ v ∧ v ≤ 511) ∧ True))) := by
    intro k_
    induction k_ with
    | zero => intro l4_2 l4_3 dt1926 hI1927 hF1928 i1929 i1930 hm; exact absurd hm (Nat.not_lt_zero _)
    | succ k_ ih_loop1931 =>
      intro l4_2 l4_3 dt1926 hI1927 hF1928 i1929 i1930 hm
      refine go_ifq PM121 (k := 2) (p1 := 90) (p2 := 10) (L' := [some (.inr (.inr (some 0))), some (.inl p1), some (.inl l4_2), some (.inl l4_3), none, none]) (st' := []) (w' := (SH, dt1926)) rfl (c_ge (a := l4_3) (b := 8) (by first | exact bnd i1930 (by decide) (by decide) | exact ⟨by fail, by fail⟩) ⟨by decide, by decide⟩) (fun c1962 => ?_) (fun c1962 => ?_)
      · skip
        refine go_retq PM121 (k := 1) (r := some (.inl l4_2)) (w1 := (SH, dt1926)) rfl ?_
        exact ⟨dt1926, rfl, hI1927, hF1928, ⟨_, rfl, (by first | exact bnd i1929 (by decide) (by decide) | exact ⟨by fail, by fail⟩), trivial⟩⟩
      · skip
        refine go_toq PM121 (k := 4) (pc' := 15) (L' := [some (.inr (.inr (some 0))), some (.inl p1), some (.inl l4_2), some (.inl l4_3), some (.inl (l4_3 + 1)), none]) (st' := []) (w' := (SH, dt1926)) rfl ?_
        have loop1982 : ∀ (k_ : Nat) (l15_2 : Int) (l15_4 : Int) (dt1977 : Nat → Nat → Int) (hI1978 : InvC dt1977) (hF1979 : Fr [76] dt dt1977) (i1980 : 0 ≤ l15_2 ∧ l15_2 ≤ 28) (i1981 : 1 ≤ l15_4 ∧ l15_4 ≤ 8), (9 - l15_4).toNat < k_ → GO (am_XX L xs sio) (d + 3) 121 15 [some (.inr (.inr (some 0))), some (.inl p1), some (.inl l15_2), some (.inl l4_3), some (.inl l15_4), none] [] (SH, dt1977) (fun r w2 => ∃ dt2 : Nat → Nat → Int, w2 = (SH, dt2) ∧ InvC dt2 ∧ Fr [76] dt dt2 ∧ ((∃ v : Int, r = some (.inl v) ∧ (0 ≤ v ∧ v ≤ 511) ∧ True))) := by
          intro k_
          induction k_ with
          | zero => intro l15_2 l15_4 dt1977 hI1978 hF1979 i1980 i1981 hm; exact absurd hm (Nat.not_lt_zero _)
          | succ k_ ih_loop1982 =>
            intro l15_2 l15_4 dt1977 hI1978 hF1979 i1980 i1981 hm
            refine go_ifq PM121 (k := 2) (p1 := 84) (p2 := 22) (L' := [some (.inr (.inr (some 0))), some (.inl p1), some (.inl l15_2), some (.inl l4_3), some (.inl l15_4), none]) (st' := []) (w' := (SH, dt1977)) rfl (c_ge (a := l15_4) (b := 8) (by first | exact bnd i1981 (by decide) (by decide) | exact ⟨by fail, by fail⟩) ⟨by decide, by decide⟩) (fun c1996 => ?_) (fun c1996 => ?_)
            · skip
              refine go_toq PM121 (k := 2) (pc' := 4) (L' := [some (.inr (.inr (some 0))), some (.inl p1), some (.inl l15_2), some (.inl (l4_3 + 1)), some (.inl l15_4), none]) (st' := []) (w' := (SH, dt1977)) rfl ?_
              exact GO.le (ih_loop1931 l15_2 (l4_3 + 1) dt1977 hI1978 hF1979 (by first | exact bnd i1980 (by decide) (by decide) | fail) (by first | exact bndp i1930 (by decide) (by decide) | exact bnde i1930 c1962 (by decide) (by decide) | fail) (by omega)) ⟨.inl rfl, .inl rfl, .inl rfl, .inl rfl, .inr ⟨rfl, trivial⟩, .inl rfl, trivial⟩
            · skip
              have r1997 : -2147483648 ≤ am_shr p1 l4_3 ∧ am_shr p1 l4_3 ≤ 2147483647 := am_shr_R
              have r1998 : 0 ≤ am_and (am_shr p1 l4_3) 1 ∧ am_and (am_shr p1 l4_3) 1 ≤ 1 := and_R1
              have j2003 :  GO (am_XX L xs sio) (d + 3) 121 46 [some (.inr (.inr (some 0))), some (.inl p1), some (.inl l15_2), some (.inl l4_3), some (.inl l15_4), none] [.inl 0] (SH, dt1977) (fun r w2 => ∃ dt2 : Nat → Nat → Int, w2 = (SH, dt2) ∧ InvC dt2 ∧ Fr [76] dt dt2 ∧ ((∃ v : Int, r = some (.inl v) ∧ (0 ≤ v ∧ v ≤ 511) ∧ True))) := by
                skip
                refine go_toq PM121 (k := 5) (pc' := 15) (L' := [some (.inr (.inr (some 0))), some (.inl p1), some (.inl l15_2), some (.inl l4_3), some (.inl (l15_4 + 1)), some (.inl 0)]) (st' := []) (w' := (SH, dt1977)) rfl ?_
                exact GO.le (ih_loop1982 l15_2 (l15_4 + 1) dt1977 hI1978 hF1979 (by first | exact bnd i1980 (by decide) (by decide) | fail) (by first | exact bndp i1981 (by decide) (by decide) | exact bnde i1981 c1996 (by decide) (by decide) | fail) (by omega)) ⟨.inl rfl, .inl rfl, .inl rfl, .inl rfl, .inl rfl, .inr ⟨rfl, trivial⟩, trivial⟩
              refine go_ifq PM121 (k := 6) (p1 := 45) (p2 := 31) (L' := [some (.inr (.inr (some 0))), some (.inl p1), some (.inl l15_2), some (.inl l4_3), some (.inl l15_4), none]) (st' := []) (w' := (SH, dt1977)) rfl (c_ne (a := am_and (am_shr p1 l4_3) 1) (b := 1) (by first | exact bnd r1998 (by decide) (by decide) | exact ⟨by fail, by fail⟩) ⟨by decide, by decide⟩) (fun c2004 => ?_) (fun c2004 => ?_)
              · skip
                have qc2004 : am_and (am_shr p1 l4_3) 1 ≤ 0 := by omega
                replace c2004 := hid c2004
                refine go_toq PM121 (k := 1) (pc' := 46) (L' := [some (.inr (.inr (some 0))), some (.inl p1), some (.inl l15_2), some (.inl l4_3), some (.inl l15_4), none]) (st' := [.inl 0]) (w' := (SH, dt1977)) rfl ?_
                exact GO.le (j2003 ) ⟨.inl rfl, .inl rfl, .inl rfl, .inl rfl, .inl rfl, .inl rfl, trivial⟩
              · skip
                have r2005 : -2147483648 ≤ am_shr p1 l15_4 ∧ am_shr p1 l15_4 ≤ 2147483647 := am_shr_R
                have r2006 : 0 ≤ am_and (am_shr p1 l15_4) 1 ∧ am_and (am_shr p1 l15_4) 1 ≤ 1 := and_R1
                refine go_ifq PM121 (k := 6) (p1 := 45) (p2 := 41) (L' := [some (.inr (.inr (some 0))), some (.inl p1), some (.inl l15_2), some (.inl l4_3), some (.inl l15_4), none]) (st' := []) (w' := (SH, dt1977)) rfl (c_ne (a := am_and (am_shr p1 l15_4) 1) (b := 1) (by first | exact bnd r2006 (by decide) (by decide) | exact ⟨by fail, by fail⟩) ⟨by decide, by decide⟩) (fun c2007 => ?_) (fun c2007 => ?_)
                · skip
                  have qc2007 : am_and (am_shr p1 l15_4) 1 ≤ 0 := by omega
                  replace c2007 := hid c2007
                  refine go_toq PM121 (k := 1) (pc' := 46) (L' := [some (.inr (.inr (some 0))), some (.inl p1), some (.inl l15_2), some (.inl l4_3), some (.inl l15_4), none]) (st' := [.inl 0]) (w' := (SH, dt1977)) rfl ?_
                  exact GO.le (j2003 ) ⟨.inl rfl, .inl rfl, .inl rfl, .inl rfl, .inl rfl, .inl rfl, trivial⟩
                · skip
                  have j2012 : ∀ (j2012_a2 : Int) (j2012_d : Nat → Nat → Int) (j2012_hI : InvC j2012_d) (j2012_hF : Fr [76] dt j2012_d) (i2013 : 1 ≤ j2012_a2 ∧ j2012_a2 ≤ 28) (i2014 : l15_2 + 0 ≤ j2012_a2 ∧ j2012_a2 ≤ l15_2 + 1), GO (am_XX L xs sio) (d + 3) 121 78 [some (.inr (.inr (some 0))), some (.inl p1), some (.inl j2012_a2), some (.inl l4_3), some (.inl l15_4), none] [] (SH, j2012_d) (fun r w2 => ∃ dt2 : Nat → Nat → Int, w2 = (SH, dt2) ∧ InvC dt2 ∧ Fr [76] dt dt2 ∧ ((∃ v : Int, r = some (.inl v) ∧ (0 ≤ v ∧ v ≤ 511) ∧ True))) := by
                    intro j2012_a2 j2012_d j2012_hI j2012_hF i2013 i2014
                    refine go_toq PM121 (k := 2) (pc' := 15) (L' := [some (.inr (.inr (some 0))), some (.inl p1), some (.inl j2012_a2), some (.inl l4_3), some (.inl (l15_4 + 1)), none]) (st' := []) (w' := (SH, j2012_d)) rfl ?_
                    exact GO.le (ih_loop1982 j2012_a2 (l15_4 + 1) j2012_d j2012_hI j2012_hF (by first | exact bnd i2013 (by decide) (by decide) | fail) (by first | exact bndp i1981 (by decide) (by decide) | exact bnde i1981 c1996 (by decide) (by decide) | fail) (by omega)) ⟨.inl rfl, .inl rfl, .inl rfl, .inl rfl, .inl rfl, .inl rfl, trivial⟩
                  refine go_ifq PM121 (k := 9) (p1 := 78) (p2 := 62) (L' := [some (.inr (.inr (some 0))), some (.inl p1), some (.inl l15_2), some (.inl l4_3), some (.inl l15_4), some (.inl 1)]) (st' := []) (w' := (SH, dt1977)) rfl (c_ge (a := l15_2) (b := 28) (by first | exact bnd i1980 (by decide) (by decide) | exact ⟨by fail, by fail⟩) ⟨by decide, by decide⟩) (fun c2015 => ?_) (fun c2015 => ?_)
                  · skip
                    exact GO.le (j2012 l15_2 dt1977 hI1978 hF1979 (by first | exact bnd i1980 (by decide) (by decide) | omega) (by omega)) ⟨.inl rfl, .inl rfl, .inl rfl, .inl rfl, .inl rfl, .inr ⟨rfl, trivial⟩, trivial⟩
                  · skip
                    refine go_toq PM121 (k := 6) (pc' := 71) (L' := [some (.inr (.inr (some 0))), some (.inl p1), some (.inl l15_2), some (.inl l4_3), some (.inl l15_4), some (.inl 1)]) (st' := [.inl l15_4, .inl l4_3, .inr (.inr (some 0)), .inl l15_2, .inr (.inr (some 76))]) (w' := (SH, dt1977)) rfl ?_
                    refine go_callq PM121 PM120 (Q' := _) rfl rfl rfl rfl (sp_X5_partedBy L xs sio (d + 0) dt1977 hI1978  l4_3 (by first | exact bnd i1930 (by decide) (by decide) | exact bndd i1930 c1962 (by decide) (by decide) | exact ⟨by fail, by fail⟩) l15_4 (by first | exact bnd i1981 (by decide) (by decide) | exact bndd i1981 c1996 (by decide) (by decide) | exact ⟨by fail, by fail⟩) ) ?_
                    rintro _ _ ⟨rfl, h2016⟩
                    refine ⟨rfl, ?_⟩
                    rcases h2016 with ⟨v_h2016, rfl, h2016r, h2016⟩
                    have hI2017 : InvC (u2 dt1977 76 (l15_2).toNat v_h2016) := InvC_u2 hI1978 (lo := -2147483648) (hi := 2147483647) rfl rfl rfl (by first | exact bnd1 h2016r (by decide) | fail) (by first | exact bnd2 h2016r (by decide) | fail)
                    have hF2018 : Fr [76] dt (u2 dt1977 76 (l15_2).toNat v_h2016) := Fr_u2 hF1979 (by decide)
                    refine go_smpq PM121 (L' := [some (.inr (.inr (some 0))), some (.inl p1), some (.inl l15_2), some (.inl l4_3), some (.inl l15_4), some (.inl 1)]) (st' := []) (w' := (SH, (u2 dt1977 76 (l15_2).toNat v_h2016))) rfl rfl (s_iast (n := 28) rfl ⟨by omega, by omega⟩ ⟨by omega, by omega⟩) ?_
                    refine go_toq PM121 (k := 1) (pc' := 78) (L' := [some (.inr (.inr (some 0))), some (.inl p1), some (.inl (l15_2 + 1)), some (.inl l4_3), some (.inl l15_4), some (.inl 1)]) (st' := []) (w' := (SH, (u2 dt1977 76 (l15_2).toNat v_h2016))) rfl ?_
                    exact GO.le (j2012 (l15_2 + 1) (u2 dt1977 76 (l15_2).toNat v_h2016) hI2017 hF2018 (by first | exact bndp i1980 (by decide) (by decide) | exact bnde i1980 c2015 (by decide) (by decide) | fail) (by omega)) ⟨.inl rfl, .inl rfl, .inl rfl, .inl rfl, .inl rfl, .inr ⟨rfl, trivial⟩, trivial⟩
        exact GO.le (loop1982 _ l4_2 (l4_3 + 1) dt1926 hI1927 hF1928 (by first | exact bnd i1929 (by decide) (by decide) | fail) (by first | exact bndp i1930 (by decide) (by decide) | exact bnde i1930 c1962 (by decide) (by decide) | fail) (Nat.lt_succ_self _)) ⟨.inl rfl, .inl rfl, .inl rfl, .inl rfl, .inl rfl, .inl rfl, trivial⟩
  exact GO.le (loop1931 _ 0 0 dt hI hF ⟨by decide, by decide⟩ ⟨by decide, by decide⟩ (Nat.lt_succ_self _)) ⟨.inl rfl, .inl rfl, .inl rfl, .inl rfl, .inl rfl, .inl rfl, trivial⟩
theorem sp_X5_partsAll (L : Nat) (xs : Nat → Int32) (sio : Option Nat) (d : Nat) (dt : Nat → Nat → Int) (hI : InvC dt)  (p1 : Int) (h_p1 : (-2147483648) ≤ p1 ∧ p1 ≤ 2147483647) (p2 : Int) (h_p2 : (-2147483648) ≤ p2 ∧ p2 ≤ 2147483647)  : GO (am_XX L xs sio) (d) 122 0 [some (.inr (.inr (some 0))), some (.inl p1), some (.inl p2), none] [] (SH, dt) (fun r w2 => w2 = (SH, dt) ∧ ((r = some (.inl 1) ∧ True) ∨ (r = some (.inl 0) ∧ True))) := by
  refine go_toq PM122 (k := 2) (pc' := 2) (L' := [some (.inr (.inr (some 0))), some (.inl p1), some (.inl p2), some (.inl 0)]) (st' := []) (w' := (SH, dt)) rfl ?_
  have loop50 : ∀ (k_ : Nat) (l2_3 : Int) (i49 : 0 ≤ l2_3 ∧ l2_3 ≤ 28), (29 - l2_3).toNat < k_ → GO (am_XX L xs sio) (d) 122 2 [some (.inr (.inr (some 0))), some (.inl p1), some (.inl p2), some (.inl l2_3)] [] (SH, dt) (fun r w2 => w2 = (SH, dt) ∧ ((r = some (.inl 1) ∧ True) ∨ (r = some (.inl 0) ∧ True))) := by
    intro k_
    induction k_ with
    | zero => intro l2_3 i49 hm; exact absurd hm (Nat.not_lt_zero _)
    | succ k_ ih_loop50 =>
      intro l2_3 i49 hm
      refine go_ifq PM122 (k := 2) (p1 := 35) (p2 := 7) (L' := [some (.inr (.inr (some 0))), some (.inl p1), some (.inl p2), some (.inl l2_3)]) (st' := []) (w' := (SH, dt)) rfl (c_ge (a := l2_3) (b := p2) (by first | exact bnd i49 (by decide) (by decide) | exact ⟨by fail, by fail⟩) (by first | exact bnd h_p2 (by decide) (by decide) | exact ⟨by fail, by fail⟩)) (fun c51 => ?_) (fun c51 => ?_)
      · skip
        refine go_retq PM122 (k := 1) (r := some (.inl 1)) (w1 := (SH, dt)) rfl ?_
        exact ⟨rfl, (Or.inl ⟨rfl, trivial⟩)⟩
      · skip
        refine go_ifq PM122 (k := 4) (p1 := 35) (p2 := 16) (L' := [some (.inr (.inr (some 0))), some (.inl p1), some (.inl p2), some (.inl l2_3)]) (st' := []) (w' := (SH, dt)) rfl (c_ge (a := l2_3) (b := 28) (by first | exact bnd i49 (by decide) (by decide) | exact bndd i49 c51 (by decide) (by decide) | exact ⟨by fail, by fail⟩) ⟨by decide, by decide⟩) (fun c52 => ?_) (fun c52 => ?_)
        · skip
          refine go_retq PM122 (k := 1) (r := some (.inl 1)) (w1 := (SH, dt)) rfl ?_
          exact ⟨rfl, (Or.inl ⟨rfl, trivial⟩)⟩
        · skip
          refine go_toq PM122 (k := 3) (pc' := 21) (L' := [some (.inr (.inr (some 0))), some (.inl p1), some (.inl p2), some (.inl l2_3)]) (st' := [.inl l2_3, .inr (.inr (some 76))]) (w' := (SH, dt)) rfl ?_
          have r53 : (-2147483648) ≤ dt 76 (l2_3).toNat ∧ dt 76 (l2_3).toNat ≤ 2147483647 := InvC_get hI 76 (l2_3).toNat rfl rfl
          refine go_smpq PM122 (L' := [some (.inr (.inr (some 0))), some (.inl p1), some (.inl p2), some (.inl l2_3)]) (st' := [.inl (dt 76 (l2_3).toNat)]) (w' := (SH, dt)) rfl rfl (s_iald (n := 28) (f := dt 76) rfl (by first | exact bndc i49 c52 (by decide) (by decide) | exact bndx i49 (by decide) (by decide) | exact ⟨by fail, by fail⟩)) ?_
          have r54 : -2147483648 ≤ am_and (dt 76 (l2_3).toNat) p1 ∧ am_and (dt 76 (l2_3).toNat) p1 ≤ 2147483647 := am_and_R
          refine go_ifq PM122 (k := 2) (p1 := 29) (p2 := 27) (L' := [some (.inr (.inr (some 0))), some (.inl p1), some (.inl p2), some (.inl l2_3)]) (st' := []) (w' := (SH, dt)) rfl (z_ne (a := am_and (dt 76 (l2_3).toNat) p1) (by first | exact bnd r54 (by decide) (by decide) | exact ⟨by fail, by fail⟩)) (fun c55 => ?_) (fun c55 => ?_)
          · skip
            replace c55 := hid c55
            refine go_toq PM122 (k := 2) (pc' := 2) (L' := [some (.inr (.inr (some 0))), some (.inl p1), some (.inl p2), some (.inl (l2_3 + 1))]) (st' := []) (w' := (SH, dt)) rfl ?_
            exact GO.le (ih_loop50 (l2_3 + 1) (by first | exact bndp i49 (by decide) (by decide) | exact bnde i49 c52 (by decide) (by decide) | fail) (by omega)) ⟨.inl rfl, .inl rfl, .inl rfl, .inl rfl, trivial⟩
          · skip
            refine go_retq PM122 (k := 1) (r := some (.inl 0)) (w1 := (SH, dt)) rfl ?_
            exact ⟨rfl, (Or.inr ⟨rfl, trivial⟩)⟩
  exact GO.le (loop50 _ 0 ⟨by decide, by decide⟩ (Nat.lt_succ_self _)) ⟨.inl rfl, .inl rfl, .inl rfl, .inl rfl, trivial⟩
theorem sp_X5_agree (L : Nat) (xs : Nat → Int32) (sio : Option Nat) (d : Nat) (dt : Nat → Nat → Int) (hI : InvC dt)  (p1 : Int) (h_p1 : (-2147483648) ≤ p1 ∧ p1 ≤ 2147483647) (p2 : Int) (h_p2 : (-2147483648) ≤ p2 ∧ p2 ≤ 2147483647)  : GO (am_XX L xs sio) (d + 2) 125 0 [some (.inr (.inr (some 0))), some (.inl p1), some (.inl p2), none] [] (SH, dt) (fun r w2 => ∃ dt2 : Nat → Nat → Int, w2 = (SH, dt2) ∧ InvC dt2 ∧ Fr [75] dt dt2 ∧ ((r = none ∧ True))) := by
  have hF : Fr [75] dt dt := Fr_refl
  refine go_toq PM125 (k := 2) (pc' := 2) (L' := [some (.inr (.inr (some 0))), some (.inl p1), some (.inl p2), some (.inl 0)]) (st' := []) (w' := (SH, dt)) rfl ?_
  have loop55 : ∀ (k_ : Nat) (l2_3 : Int) (dt51 : Nat → Nat → Int) (hI52 : InvC dt51) (hF53 : Fr [75] dt dt51) (i54 : 0 ≤ l2_3 ∧ l2_3 ≤ 8), (9 - l2_3).toNat < k_ → GO (am_XX L xs sio) (d + 2) 125 2 [some (.inr (.inr (some 0))), some (.inl p1), some (.inl p2), some (.inl l2_3)] [] (SH, dt51) (fun r w2 => ∃ dt2 : Nat → Nat → Int, w2 = (SH, dt2) ∧ InvC dt2 ∧ Fr [75] dt dt2 ∧ ((r = none ∧ True))) := by
    intro k_
    induction k_ with
    | zero => intro l2_3 dt51 hI52 hF53 i54 hm; exact absurd hm (Nat.not_lt_zero _)
    | succ k_ ih_loop55 =>
      intro l2_3 dt51 hI52 hF53 i54 hm
      refine go_ifq PM125 (k := 2) (p1 := 41) (p2 := 8) (L' := [some (.inr (.inr (some 0))), some (.inl p1), some (.inl p2), some (.inl l2_3)]) (st' := []) (w' := (SH, dt51)) rfl (c_ge (a := l2_3) (b := 8) (by first | exact bnd i54 (by decide) (by decide) | exact ⟨by fail, by fail⟩) ⟨by decide, by decide⟩) (fun c65 => ?_) (fun c65 => ?_)
      · skip
        refine go_retq PM125 (k := 0) (r := none) (w1 := (SH, dt51)) rfl ?_
        exact ⟨dt51, rfl, hI52, hF53, ⟨rfl, trivial⟩⟩
      · skip
        refine go_toq PM125 (k := 4) (pc' := 14) (L' := [some (.inr (.inr (some 0))), some (.inl p1), some (.inl p2), some (.inl l2_3)]) (st' := [.inl l2_3, .inr (.inr (some 75)), .inl l2_3, .inr (.inr (some 75))]) (w' := (SH, dt51)) rfl ?_
        have r66 : (-2147483648) ≤ dt51 75 (l2_3).toNat ∧ dt51 75 (l2_3).toNat ≤ 2147483647 := InvC_get hI52 75 (l2_3).toNat rfl rfl
        refine go_smpq PM125 (L' := [some (.inr (.inr (some 0))), some (.inl p1), some (.inl p2), some (.inl l2_3)]) (st' := [.inl (dt51 75 (l2_3).toNat), .inl l2_3, .inr (.inr (some 75))]) (w' := (SH, dt51)) rfl rfl (s_iald (n := 8) (f := dt51 75) rfl (by first | exact bndc i54 c65 (by decide) (by decide) | exact bndx i54 (by decide) (by decide) | exact ⟨by fail, by fail⟩)) ?_
        refine go_toq PM125 (k := 4) (pc' := 21) (L' := [some (.inr (.inr (some 0))), some (.inl p1), some (.inl p2), some (.inl l2_3)]) (st' := [.inl l2_3, .inl p1, .inr (.inr (some 1)), .inl (dt51 75 (l2_3).toNat), .inl l2_3, .inr (.inr (some 75))]) (w' := (SH, dt51)) rfl ?_
        refine go_callq PM125 PM1 (Q' := _) rfl rfl rfl rfl (sp_X0_saidOf L xs sio (d + 0) dt51 hI52  p1 (by first | exact h_p1 | exact bnd h_p1 (by decide) (by decide) | exact ⟨by fail, by fail⟩) l2_3 (by first | exact bnd i54 (by decide) (by decide) | exact bndd i54 c65 (by decide) (by decide) | exact ⟨by fail, by fail⟩) ) ?_
        rintro _ _ ⟨rfl, h67⟩
        refine ⟨rfl, ?_⟩
        rcases h67 with ⟨v_h67, rfl, h67r, h67⟩
        refine go_ifq PM125 (k := 1) (p1 := 32) (p2 := 28) (L' := [some (.inr (.inr (some 0))), some (.inl p1), some (.inl p2), some (.inl l2_3)]) (st' := [.inl (dt51 75 (l2_3).toNat), .inl l2_3, .inr (.inr (some 75))]) (w' := (SH, dt51)) rfl (c_ne (a := v_h67) (b := p2) (by first | exact bnd h67r (by decide) (by decide) | exact ⟨by fail, by fail⟩) (by first | exact bnd h_p2 (by decide) (by decide) | exact ⟨by fail, by fail⟩)) (fun c69 => ?_) (fun c69 => ?_)
        · skip
          replace c69 := hid c69
          refine go_toq PM125 (k := 2) (pc' := 34) (L' := [some (.inr (.inr (some 0))), some (.inl p1), some (.inl p2), some (.inl l2_3)]) (st' := [.inl ((dt51 75 (l2_3).toNat) + 0), .inl l2_3, .inr (.inr (some 75))]) (w' := (SH, dt51)) rfl ?_
          have hI70 : InvC (u2 dt51 75 (l2_3).toNat ((dt51 75 (l2_3).toNat) + 0)) := InvC_u2 hI52 (lo := -2147483648) (hi := 2147483647) rfl rfl rfl (by omega) (by omega)
          have hF71 : Fr [75] dt (u2 dt51 75 (l2_3).toNat ((dt51 75 (l2_3).toNat) + 0)) := Fr_u2 hF53 (by decide)
          refine go_smpq PM125 (L' := [some (.inr (.inr (some 0))), some (.inl p1), some (.inl p2), some (.inl l2_3)]) (st' := []) (w' := (SH, (u2 dt51 75 (l2_3).toNat ((dt51 75 (l2_3).toNat) + 0)))) rfl rfl (s_iast (n := 8) rfl (by first | exact bndc i54 c65 (by decide) (by decide) | exact bndx i54 (by decide) (by decide) | exact ⟨by fail, by fail⟩) (by first | exact bndp r66 (by decide) (by decide) | exact ⟨by fail, by fail⟩)) ?_
          refine go_toq PM125 (k := 2) (pc' := 2) (L' := [some (.inr (.inr (some 0))), some (.inl p1), some (.inl p2), some (.inl (l2_3 + 1))]) (st' := []) (w' := (SH, (u2 dt51 75 (l2_3).toNat ((dt51 75 (l2_3).toNat) + 0)))) rfl ?_
          exact GO.le (ih_loop55 (l2_3 + 1) (u2 dt51 75 (l2_3).toNat ((dt51 75 (l2_3).toNat) + 0)) hI70 hF71 (by first | exact bndp i54 (by decide) (by decide) | exact bnde i54 c65 (by decide) (by decide) | fail) (by omega)) ⟨.inl rfl, .inl rfl, .inl rfl, .inl rfl, trivial⟩
        · skip
          refine go_toq PM125 (k := 3) (pc' := 34) (L' := [some (.inr (.inr (some 0))), some (.inl p1), some (.inl p2), some (.inl l2_3)]) (st' := [.inl ((dt51 75 (l2_3).toNat) + 1), .inl l2_3, .inr (.inr (some 75))]) (w' := (SH, dt51)) rfl ?_
          have r72 := wr_RR ((dt51 75 (l2_3).toNat) + 1)
          have hI73 : InvC (u2 dt51 75 (l2_3).toNat (wr ((dt51 75 (l2_3).toNat) + 1))) := InvC_u2 hI52 (lo := -2147483648) (hi := 2147483647) rfl rfl rfl (by omega) (by omega)
          have hF74 : Fr [75] dt (u2 dt51 75 (l2_3).toNat (wr ((dt51 75 (l2_3).toNat) + 1))) := Fr_u2 hF53 (by decide)
          refine go_smpq PM125 (L' := [some (.inr (.inr (some 0))), some (.inl p1), some (.inl p2), some (.inl l2_3)]) (st' := []) (w' := (SH, (u2 dt51 75 (l2_3).toNat (wr ((dt51 75 (l2_3).toNat) + 1))))) rfl rfl (s_iastw (n := 8) rfl (by first | exact bndc i54 c65 (by decide) (by decide) | exact bndx i54 (by decide) (by decide) | exact ⟨by fail, by fail⟩)) ?_
          refine go_toq PM125 (k := 2) (pc' := 2) (L' := [some (.inr (.inr (some 0))), some (.inl p1), some (.inl p2), some (.inl (l2_3 + 1))]) (st' := []) (w' := (SH, (u2 dt51 75 (l2_3).toNat (wr ((dt51 75 (l2_3).toNat) + 1))))) rfl ?_
          exact GO.le (ih_loop55 (l2_3 + 1) (u2 dt51 75 (l2_3).toNat (wr ((dt51 75 (l2_3).toNat) + 1))) hI73 hF74 (by first | exact bndp i54 (by decide) (by decide) | exact bnde i54 c65 (by decide) (by decide) | fail) (by omega)) ⟨.inl rfl, .inl rfl, .inl rfl, .inl rfl, trivial⟩
  exact GO.le (loop55 _ 0 dt hI hF ⟨by decide, by decide⟩ (Nat.lt_succ_self _)) ⟨.inl rfl, .inl rfl, .inl rfl, .inl rfl, trivial⟩
theorem sp_X5_countAgreed (L : Nat) (xs : Nat → Int32) (sio : Option Nat) (d : Nat) (dt : Nat → Nat → Int) (hI : InvC dt)  (p1 : Int) (h_p1 : (-2147483648) ≤ p1 ∧ p1 ≤ 2147483647)  : GO (am_XX L xs sio) (d + 3) 126 0 [some (.inr (.inr (some 0))), some (.inl p1), none, none] [] (SH, dt) (fun r w2 => ∃ dt2 : Nat → Nat → Int, w2 = (SH, dt2) ∧ InvC dt2 ∧ Fr [75] dt dt2 ∧ ((r = none ∧ True))) := by
  have hF : Fr [75] dt dt := Fr_refl
  refine go_toq PM126 (k := 3) (pc' := 5) (L' := [some (.inr (.inr (some 0))), some (.inl p1), none, none]) (st' := [.inl 0, .inr (.inr (some 75))]) (w' := (SH, dt)) rfl ?_
  refine go_callq PM126 PM261 (Q' := _) rfl rfl rfl rfl (sp_J7_fill_53178_75 L xs sio (d + 2) dt hI  0 ⟨by decide, by decide⟩ ) ?_
  rintro _ _ ⟨dt2, rfl, hI3, hF4, h1⟩
  refine ⟨rfl, ?_⟩
  have hF5 : Fr [75] dt dt2 := Fr_tr hF hF4 (by decide)
  rcases h1 with ⟨rfl, h1⟩
  refine go_toq PM126 (k := 4) (pc' := 12) (L' := [some (.inr (.inr (some 0))), some (.inl p1), some (.inl 0), some (.inl 0)]) (st' := []) (w' := (SH, dt2)) rfl ?_
  have loop123 : ∀ (k_ : Nat) (l12_2 : Int) (l12_3 : Int) (dt118 : Nat → Nat → Int) (hI119 : InvC dt118) (hF120 : Fr [75] dt dt118) (i121 : 0 ≤ l12_2 ∧ l12_2 ≤ 12) (i122 : 0 ≤ l12_3 ∧ l12_3 ≤ 300), (301 - l12_3).toNat < k_ → GO (am_XX L xs sio) (d + 3) 126 12 [some (.inr (.inr (some 0))), some (.inl p1), some (.inl l12_2), some (.inl l12_3)] [] (SH, dt118) (fun r w2 => ∃ dt2 : Nat → Nat → Int, w2 = (SH, dt2) ∧ InvC dt2 ∧ Fr [75] dt dt2 ∧ ((r = none ∧ True))) := by
    intro k_
    induction k_ with
    | zero => intro l12_2 l12_3 dt118 hI119 hF120 i121 i122 hm; exact absurd hm (Nat.not_lt_zero _)
    | succ k_ ih_loop123 =>
      intro l12_2 l12_3 dt118 hI119 hF120 i121 i122 hm
      have r124 : 0 ≤ dt118 12 3 ∧ dt118 12 3 ≤ 300 := InvC_get hI119 12 3 rfl rfl
      have j137 :  GO (am_XX L xs sio) (d + 3) 126 85 [some (.inr (.inr (some 0))), none, none, none] [] (SH, dt118) (fun r w2 => ∃ dt2 : Nat → Nat → Int, w2 = (SH, dt2) ∧ InvC dt2 ∧ Fr [75] dt dt2 ∧ ((r = none ∧ True))) := by
        skip
        refine go_retq PM126 (k := 0) (r := none) (w1 := (SH, dt118)) rfl ?_
        exact ⟨dt118, rfl, hI119, hF120, ⟨rfl, trivial⟩⟩
      refine go_ifq PM126 (k := 5) (p1 := 85) (p2 := 26) (L' := [some (.inr (.inr (some 0))), some (.inl p1), some (.inl l12_2), some (.inl l12_3)]) (st' := []) (w' := (SH, dt118)) rfl (c_ge (a := l12_3) (b := dt118 12 3) (by first | exact bnd i122 (by decide) (by decide) | exact ⟨by fail, by fail⟩) (by first | exact bnd r124 (by decide) (by decide) | exact ⟨by fail, by fail⟩)) (fun c138 => ?_) (fun c138 => ?_)
      · skip
        exact GO.le (j137 ) ⟨.inl rfl, .inr ⟨rfl, trivial⟩, .inr ⟨rfl, trivial⟩, .inr ⟨rfl, trivial⟩, trivial⟩
      · skip
        refine go_ifq PM126 (k := 2) (p1 := 85) (p2 := 32) (L' := [some (.inr (.inr (some 0))), some (.inl p1), some (.inl l12_2), some (.inl l12_3)]) (st' := []) (w' := (SH, dt118)) rfl (c_ge (a := l12_2) (b := 12) (by first | exact bnd i121 (by decide) (by decide) | exact ⟨by fail, by fail⟩) ⟨by decide, by decide⟩) (fun c139 => ?_) (fun c139 => ?_)
        · skip
          exact GO.le (j137 ) ⟨.inl rfl, .inr ⟨rfl, trivial⟩, .inr ⟨rfl, trivial⟩, .inr ⟨rfl, trivial⟩, trivial⟩
        · skip
          refine go_toq PM126 (k := 5) (pc' := 41) (L' := [some (.inr (.inr (some 0))), some (.inl p1), some (.inl l12_2), some (.inl l12_3)]) (st' := [.inl 0, .inl l12_3, .inr (.inr (some 12))]) (w' := (SH, dt118)) rfl ?_
          refine go_callq PM126 PM39 (Q' := _) rfl rfl rfl rfl (sp_X2_at_12 L xs sio (d + 1) dt118 hI119  l12_3 (by first | exact bnd i122 (by decide) (by decide) | exact bndd i122 c138 (by decide) (by decide) | exact ⟨by fail, by fail⟩) 0 ⟨by decide, by decide⟩ ) ?_
          rintro _ _ ⟨rfl, h140⟩
          refine ⟨rfl, ?_⟩
          rcases h140 with ⟨v_h140, rfl, h140r, h140⟩
          have j149 : ∀ (j149_a2 : Int) (j149_d : Nat → Nat → Int) (j149_hI : InvC j149_d) (j149_hF : Fr [75] dt j149_d) (i150 : 0 ≤ j149_a2 ∧ j149_a2 ≤ 12) (i151 : l12_2 + 0 ≤ j149_a2 ∧ j149_a2 ≤ l12_2 + 1), GO (am_XX L xs sio) (d + 3) 126 79 [some (.inr (.inr (some 0))), some (.inl p1), some (.inl j149_a2), some (.inl l12_3)] [] (SH, j149_d) (fun r w2 => ∃ dt2 : Nat → Nat → Int, w2 = (SH, dt2) ∧ InvC dt2 ∧ Fr [75] dt dt2 ∧ ((r = none ∧ True))) := by
            intro j149_a2 j149_d j149_hI j149_hF i150 i151
            refine go_toq PM126 (k := 2) (pc' := 12) (L' := [some (.inr (.inr (some 0))), some (.inl p1), some (.inl j149_a2), some (.inl (l12_3 + 1))]) (st' := []) (w' := (SH, j149_d)) rfl ?_
            exact GO.le (ih_loop123 j149_a2 (l12_3 + 1) j149_d j149_hI j149_hF (by first | exact bnd i150 (by decide) (by decide) | fail) (by first | exact bndp i122 (by decide) (by decide) | exact bnde i122 c138 (by decide) (by decide) | omega) (by omega)) ⟨.inl rfl, .inl rfl, .inl rfl, .inl rfl, trivial⟩
          refine go_ifq PM126 (k := 1) (p1 := 79) (p2 := 48) (L' := [some (.inr (.inr (some 0))), some (.inl p1), some (.inl l12_2), some (.inl l12_3)]) (st' := []) (w' := (SH, dt118)) rfl (c_ne (a := v_h140) (b := p1) (by first | exact bnd h140r (by decide) (by decide) | exact ⟨by fail, by fail⟩) (by first | exact bnd h_p1 (by decide) (by decide) | exact ⟨by fail, by fail⟩)) (fun c152 => ?_) (fun c152 => ?_)
          · skip
            replace c152 := hid c152
            exact GO.le (j149 l12_2 dt118 hI119 hF120 (by first | exact bnd i121 (by decide) (by decide) | fail) (by omega)) ⟨.inl rfl, .inl rfl, .inl rfl, .inl rfl, trivial⟩
          · skip
            refine go_toq PM126 (k := 6) (pc' := 58) (L' := [some (.inr (.inr (some 0))), some (.inl p1), some (.inl l12_2), some (.inl l12_3)]) (st' := [.inl 1, .inl l12_3, .inr (.inr (some 12)), .inr (.inr (some 0))]) (w' := (SH, dt118)) rfl ?_
            refine go_callq PM126 PM39 (Q' := _) rfl rfl rfl rfl (sp_X2_at_12 L xs sio (d + 1) dt118 hI119  l12_3 (by first | exact bnd i122 (by decide) (by decide) | exact bndd i122 c138 (by decide) (by decide) | exact ⟨by fail, by fail⟩) 1 ⟨by decide, by decide⟩ ) ?_
            rintro _ _ ⟨rfl, h153⟩
            refine ⟨rfl, ?_⟩
            rcases h153 with ⟨v_h153, rfl, h153r, h153⟩
            refine go_toq PM126 (k := 5) (pc' := 70) (L' := [some (.inr (.inr (some 0))), some (.inl p1), some (.inl l12_2), some (.inl l12_3)]) (st' := [.inl 3, .inl l12_3, .inr (.inr (some 12)), .inl v_h153, .inr (.inr (some 0))]) (w' := (SH, dt118)) rfl ?_
            refine go_callq PM126 PM39 (Q' := _) rfl rfl rfl rfl (sp_X2_at_12 L xs sio (d + 1) dt118 hI119  l12_3 (by first | exact bnd i122 (by decide) (by decide) | exact bndd i122 c138 (by decide) (by decide) | exact ⟨by fail, by fail⟩) 3 ⟨by decide, by decide⟩ ) ?_
            rintro _ _ ⟨rfl, h154⟩
            refine ⟨rfl, ?_⟩
            rcases h154 with ⟨v_h154, rfl, h154r, h154⟩
            refine go_callq PM126 PM125 (Q' := _) rfl rfl rfl rfl (sp_X5_agree L xs sio (d + 0) dt118 hI119  v_h153 (by first | exact bnd h153r (by decide) (by decide) | exact ⟨by fail, by fail⟩) v_h154 (by first | exact bnd h154r (by decide) (by decide) | exact ⟨by fail, by fail⟩) ) ?_
            rintro _ _ ⟨dt156, rfl, hI157, hF158, h155⟩
            refine ⟨rfl, ?_⟩
            have hF159 : Fr [75] dt dt156 := Fr_tr hF120 hF158 (by decide)
            rcases h155 with ⟨rfl, h155⟩
            refine go_toq PM126 (k := 1) (pc' := 79) (L' := [some (.inr (.inr (some 0))), some (.inl p1), some (.inl (l12_2 + 1)), some (.inl l12_3)]) (st' := []) (w' := (SH, dt156)) rfl ?_
            exact GO.le (j149 (l12_2 + 1) dt156 hI157 hF159 (by first | exact bndp i121 (by decide) (by decide) | exact bnde i121 c139 (by decide) (by decide) | fail) (by omega)) ⟨.inl rfl, .inl rfl, .inl rfl, .inl rfl, trivial⟩
  exact GO.le (loop123 _ 0 0 dt2 hI3 hF5 ⟨by decide, by decide⟩ ⟨by decide, by decide⟩ (Nat.lt_succ_self _)) ⟨.inl rfl, .inl rfl, .inl rfl, .inl rfl, trivial⟩
theorem sp_X5_powerOfNine (L : Nat) (xs : Nat → Int32) (sio : Option Nat) (d : Nat) (dt : Nat → Nat → Int) (hI : InvC dt)  (p1 : Int) (h_p1 : (-2147483648) ≤ p1 ∧ p1 ≤ 2147483647)  : GO (am_XX L xs sio) (d) 128 0 [some (.inl p1), none, none, none] [] (SH, dt) (fun r w2 => w2 = (SH, dt) ∧ ((∃ v : Int, r = some (.inr (.inl v)) ∧ True ∧ True))) := by
  refine go_toq PM128 (k := 4) (pc' := 4) (L' := [some (.inl p1), some (.inr (.inl 1)), none, some (.inl 0)]) (st' := []) (w' := (SH, dt)) rfl ?_
  have loop20 : ∀ (k_ : Nat) (l4_1 : Int) (l4_3 : Int) (i19 : 0 ≤ l4_3 ∧ l4_3 ≤ 12), (13 - l4_3).toNat < k_ → GO (am_XX L xs sio) (d) 128 4 [some (.inl p1), some (.inr (.inl l4_1)), none, some (.inl l4_3)] [] (SH, dt) (fun r w2 => w2 = (SH, dt) ∧ ((∃ v : Int, r = some (.inr (.inl v)) ∧ True ∧ True))) := by
    intro k_
    induction k_ with
    | zero => intro l4_1 l4_3 i19 hm; exact absurd hm (Nat.not_lt_zero _)
    | succ k_ ih_loop20 =>
      intro l4_1 l4_3 i19 hm
      have j23 :  GO (am_XX L xs sio) (d) 128 27 [none, some (.inr (.inl l4_1)), none, none] [] (SH, dt) (fun r w2 => w2 = (SH, dt) ∧ ((∃ v : Int, r = some (.inr (.inl v)) ∧ True ∧ True))) := by
        skip
        refine go_retq PM128 (k := 1) (r := some (.inr (.inl l4_1))) (w1 := (SH, dt)) rfl ?_
        exact ⟨rfl, ⟨_, rfl, trivial, trivial⟩⟩
      refine go_ifq PM128 (k := 2) (p1 := 27) (p2 := 9) (L' := [some (.inl p1), some (.inr (.inl l4_1)), none, some (.inl l4_3)]) (st' := []) (w' := (SH, dt)) rfl (c_ge (a := l4_3) (b := p1) (by first | exact bnd i19 (by decide) (by decide) | exact ⟨by fail, by fail⟩) (by first | exact bnd h_p1 (by decide) (by decide) | exact ⟨by fail, by fail⟩)) (fun c24 => ?_) (fun c24 => ?_)
      · skip
        exact GO.le (j23 ) ⟨.inr ⟨rfl, trivial⟩, .inl rfl, .inl rfl, .inr ⟨rfl, trivial⟩, trivial⟩
      · skip
        refine go_ifq PM128 (k := 2) (p1 := 27) (p2 := 15) (L' := [some (.inl p1), some (.inr (.inl l4_1)), none, some (.inl l4_3)]) (st' := []) (w' := (SH, dt)) rfl (c_ge (a := l4_3) (b := 12) (by first | exact bnd i19 (by decide) (by decide) | exact bndd i19 c24 (by decide) (by decide) | exact ⟨by fail, by fail⟩) ⟨by decide, by decide⟩) (fun c25 => ?_) (fun c25 => ?_)
        · skip
          exact GO.le (j23 ) ⟨.inr ⟨rfl, trivial⟩, .inl rfl, .inl rfl, .inr ⟨rfl, trivial⟩, trivial⟩
        · skip
          refine go_toq PM128 (k := 6) (pc' := 4) (L' := [some (.inl p1), some (.inr (.inl (l4_1 * 9))), none, some (.inl (l4_3 + 1))]) (st' := []) (w' := (SH, dt)) rfl ?_
          exact GO.le (ih_loop20 (l4_1 * 9) (l4_3 + 1) (by first | exact bndp i19 (by decide) (by decide) | exact bnde i19 c25 (by decide) (by decide) | fail) (by omega)) ⟨.inl rfl, .inl rfl, .inl rfl, .inl rfl, trivial⟩
  exact GO.le (loop20 _ 1 0 ⟨by decide, by decide⟩ (Nat.lt_succ_self _)) ⟨.inl rfl, .inl rfl, .inl rfl, .inl rfl, trivial⟩
theorem sp_X5_oddsOf (L : Nat) (xs : Nat → Int32) (sio : Option Nat) (d : Nat) (dt : Nat → Nat → Int) (hI : InvC dt)  (p1 : Int) (h_p1 : (-2147483648) ≤ p1 ∧ p1 ≤ 2147483647)  : GO (am_XX L xs sio) (d + 2) 127 0 [some (.inr (.inr (some 0))), some (.inl p1), none, none, none] [] (SH, dt) (fun r w2 => w2 = (SH, dt) ∧ ((∃ v : Int, r = some (.inl v) ∧ True ∧ True))) := by
  refine go_toq PM127 (k := 4) (pc' := 5) (L' := [some (.inr (.inr (some 0))), some (.inl p1), some (.inr (.inl 0)), none, some (.inl 0)]) (st' := []) (w' := (SH, dt)) rfl ?_
  have loop22 : ∀ (k_ : Nat) (l5_2 : Int) (l5_4 : Int) (i21 : 0 ≤ l5_4 ∧ l5_4 ≤ 8), (9 - l5_4).toNat < k_ → GO (am_XX L xs sio) (d + 2) 127 5 [some (.inr (.inr (some 0))), some (.inl p1), some (.inr (.inl l5_2)), none, some (.inl l5_4)] [] (SH, dt) (fun r w2 => w2 = (SH, dt) ∧ ((∃ v : Int, r = some (.inl v) ∧ True ∧ True))) := by
    intro k_
    induction k_ with
    | zero => intro l5_2 l5_4 i21 hm; exact absurd hm (Nat.not_lt_zero _)
    | succ k_ ih_loop22 =>
      intro l5_2 l5_4 i21 hm
      refine go_ifq PM127 (k := 2) (p1 := 31) (p2 := 12) (L' := [some (.inr (.inr (some 0))), some (.inl p1), some (.inr (.inl l5_2)), none, some (.inl l5_4)]) (st' := []) (w' := (SH, dt)) rfl (c_ge (a := l5_4) (b := 8) (by first | exact bnd i21 (by decide) (by decide) | exact ⟨by fail, by fail⟩) ⟨by decide, by decide⟩) (fun c26 => ?_) (fun c26 => ?_)
      · skip
        refine go_toq PM127 (k := 1) (pc' := 32) (L' := [some (.inr (.inr (some 0))), some (.inl p1), some (.inr (.inl l5_2)), none, some (.inl l5_4)]) (st' := [.inl p1]) (w' := (SH, dt)) rfl ?_
        refine go_callq PM127 PM106 (Q' := _) rfl rfl rfl rfl (sp_X5_isRule L xs sio (d + 0) dt hI  p1 (by first | exact h_p1 | exact bnd h_p1 (by decide) (by decide) | exact ⟨by fail, by fail⟩) ) ?_
        rintro _ _ ⟨rfl, h27⟩
        refine ⟨rfl, ?_⟩
        rcases h27 with ⟨rfl, h27⟩ | ⟨rfl, h27⟩
        · skip
          have j31 :  GO (am_XX L xs sio) (d + 2) 127 64 [some (.inr (.inr (some 0))), none, none, none, none] [.inl 0] (SH, dt) (fun r w2 => w2 = (SH, dt) ∧ ((∃ v : Int, r = some (.inl v) ∧ True ∧ True))) := by
            skip
            refine go_retq PM127 (k := 0) (r := some (.inl 0)) (w1 := (SH, dt)) rfl ?_
            exact ⟨rfl, ⟨_, rfl, trivial, trivial⟩⟩
          refine go_toq PM127 (k := 3) (pc' := 40) (L' := [some (.inr (.inr (some 0))), some (.inl p1), some (.inr (.inl l5_2)), none, some (.inl l5_4)]) (st' := [.inr (.inl 0), .inr (.inl l5_2)]) (w' := (SH, dt)) rfl ?_
          rcases Int.lt_trichotomy (wl l5_2) 0 with c32 | c32 | c32
          · refine go_smpq PM127 (L' := [some (.inr (.inr (some 0))), some (.inl p1), some (.inr (.inl l5_2)), none, some (.inl l5_4)]) (st' := [.inl (-1)]) (w' := (SH, dt)) rfl rfl (s_lclw (a' := (wl l5_2)) (b' := 0) rfl rfl c32) ?_
            refine go_toq PM127 (k := 2) (pc' := 64) (L' := [some (.inr (.inr (some 0))), some (.inl p1), some (.inr (.inl l5_2)), none, some (.inl l5_4)]) (st' := [.inl 0]) (w' := (SH, dt)) rfl ?_
            exact GO.le (j31 ) ⟨.inl rfl, .inr ⟨rfl, trivial⟩, .inr ⟨rfl, trivial⟩, .inl rfl, .inr ⟨rfl, trivial⟩, trivial⟩
          · refine go_smpq PM127 (L' := [some (.inr (.inr (some 0))), some (.inl p1), some (.inr (.inl l5_2)), none, some (.inl l5_4)]) (st' := [.inl 0]) (w' := (SH, dt)) rfl rfl (s_lcew (a' := (wl l5_2)) (b' := 0) rfl rfl c32) ?_
            refine go_toq PM127 (k := 2) (pc' := 64) (L' := [some (.inr (.inr (some 0))), some (.inl p1), some (.inr (.inl l5_2)), none, some (.inl l5_4)]) (st' := [.inl 0]) (w' := (SH, dt)) rfl ?_
            exact GO.le (j31 ) ⟨.inl rfl, .inr ⟨rfl, trivial⟩, .inr ⟨rfl, trivial⟩, .inl rfl, .inr ⟨rfl, trivial⟩, trivial⟩
          · refine go_smpq PM127 (L' := [some (.inr (.inr (some 0))), some (.inl p1), some (.inr (.inl l5_2)), none, some (.inl l5_4)]) (st' := [.inl 1]) (w' := (SH, dt)) rfl rfl (s_lcgw (a' := (wl l5_2)) (b' := 0) rfl rfl c32) ?_
            refine go_toq PM127 (k := 5) (pc' := 52) (L' := [some (.inr (.inr (some 0))), some (.inl p1), some (.inr (.inl l5_2)), none, some (.inl l5_4)]) (st' := [.inl p1, .inr (.inr (some 75)), .inr (.inl 1000)]) (w' := (SH, dt)) rfl ?_
            have r33 : (-2147483648) ≤ dt 75 (p1).toNat ∧ dt 75 (p1).toNat ≤ 2147483647 := InvC_get hI 75 (p1).toNat rfl rfl
            refine go_smpq PM127 (L' := [some (.inr (.inr (some 0))), some (.inl p1), some (.inr (.inl l5_2)), none, some (.inl l5_4)]) (st' := [.inl (dt 75 (p1).toNat), .inr (.inl 1000)]) (w' := (SH, dt)) rfl rfl (s_iald (n := 8) (f := dt 75) rfl (by first | exact bndx h_p1 (by decide) (by decide) | exact ⟨by omega, by omega⟩)) ?_
            refine go_callq PM127 PM128 (Q' := _) rfl rfl rfl rfl (sp_X5_powerOfNine L xs sio (d + 1) dt hI  (dt 75 (p1).toNat) (by first | exact bnd r33 (by decide) (by decide) | exact ⟨by fail, by fail⟩) ) ?_
            rintro _ _ ⟨rfl, h34⟩
            refine ⟨rfl, ?_⟩
            rcases h34 with ⟨v_h34, rfl, h34r, h34⟩
            refine go_toq PM127 (k := 2) (pc' := 58) (L' := [some (.inr (.inr (some 0))), some (.inl p1), some (.inr (.inl l5_2)), none, some (.inl l5_4)]) (st' := [.inr (.inl l5_2), .inr (.inl (1000 * v_h34))]) (w' := (SH, dt)) rfl ?_
            refine go_smpq PM127 (L' := [some (.inr (.inr (some 0))), some (.inl p1), some (.inr (.inl l5_2)), none, some (.inl l5_4)]) (st' := [.inr (.inl ((wl (1000 * v_h34)).tdiv (wl l5_2)))]) (w' := (SH, dt)) rfl rfl (s_ldiv (by omega)) ?_
            refine go_retq PM127 (k := 2) (r := some (.inl ((wl (1000 * v_h34)).tdiv (wl l5_2)))) (w1 := (SH, dt)) rfl ?_
            exact ⟨rfl, ⟨_, rfl, trivial, trivial⟩⟩
        · skip
          refine go_retq PM127 (k := 2) (r := some (.inl 0)) (w1 := (SH, dt)) rfl ?_
          exact ⟨rfl, ⟨_, rfl, trivial, trivial⟩⟩
      · skip
        refine go_toq PM127 (k := 4) (pc' := 19) (L' := [some (.inr (.inr (some 0))), some (.inl p1), some (.inr (.inl l5_2)), none, some (.inl l5_4)]) (st' := [.inl l5_4, .inr (.inr (some 75)), .inr (.inl l5_2)]) (w' := (SH, dt)) rfl ?_
        have r35 : (-2147483648) ≤ dt 75 (l5_4).toNat ∧ dt 75 (l5_4).toNat ≤ 2147483647 := InvC_get hI 75 (l5_4).toNat rfl rfl
        refine go_smpq PM127 (L' := [some (.inr (.inr (some 0))), some (.inl p1), some (.inr (.inl l5_2)), none, some (.inl l5_4)]) (st' := [.inl (dt 75 (l5_4).toNat), .inr (.inl l5_2)]) (w' := (SH, dt)) rfl rfl (s_iald (n := 8) (f := dt 75) rfl (by first | exact bndc i21 c26 (by decide) (by decide) | exact bndx i21 (by decide) (by decide) | exact ⟨by fail, by fail⟩)) ?_
        refine go_callq PM127 PM128 (Q' := _) rfl rfl rfl rfl (sp_X5_powerOfNine L xs sio (d + 1) dt hI  (dt 75 (l5_4).toNat) (by first | exact bnd r35 (by decide) (by decide) | exact ⟨by fail, by fail⟩) ) ?_
        rintro _ _ ⟨rfl, h36⟩
        refine ⟨rfl, ?_⟩
        rcases h36 with ⟨v_h36, rfl, h36r, h36⟩
        refine go_toq PM127 (k := 4) (pc' := 5) (L' := [some (.inr (.inr (some 0))), some (.inl p1), some (.inr (.inl (l5_2 + v_h36))), none, some (.inl (l5_4 + 1))]) (st' := []) (w' := (SH, dt)) rfl ?_
        exact GO.le (ih_loop22 (l5_2 + v_h36) (l5_4 + 1) (by first | exact bndp i21 (by decide) (by decide) | exact bnde i21 c26 (by decide) (by decide) | fail) (by omega)) ⟨.inl rfl, .inl rfl, .inl rfl, .inl rfl, .inl rfl, trivial⟩
  exact GO.le (loop22 _ 0 0 ⟨by decide, by decide⟩ (Nat.lt_succ_self _)) ⟨.inl rfl, .inl rfl, .inl rfl, .inl rfl, .inl rfl, trivial⟩
theorem sp_X5_mostAgreed (L : Nat) (xs : Nat → Int32) (sio : Option Nat) (d : Nat) (dt : Nat → Nat → Int) (hI : InvC dt)    : GO (am_XX L xs sio) (d) 129 0 [some (.inr (.inr (some 0))), none, none] [] (SH, dt) (fun r w2 => w2 = (SH, dt) ∧ ((∃ v : Int, r = some (.inl v) ∧ (0 ≤ v ∧ v ≤ 7) ∧ True))) := by
  refine go_toq PM129 (k := 4) (pc' := 4) (L' := [some (.inr (.inr (some 0))), some (.inl 0), some (.inl 1)]) (st' := []) (w' := (SH, dt)) rfl ?_
  have loop33 : ∀ (k_ : Nat) (l4_1 : Int) (l4_2 : Int) (i31 : 0 ≤ l4_1 ∧ l4_1 ≤ 7) (i32 : 1 ≤ l4_2 ∧ l4_2 ≤ 8), (9 - l4_2).toNat < k_ → GO (am_XX L xs sio) (d) 129 4 [some (.inr (.inr (some 0))), some (.inl l4_1), some (.inl l4_2)] [] (SH, dt) (fun r w2 => w2 = (SH, dt) ∧ ((∃ v : Int, r = some (.inl v) ∧ (0 ≤ v ∧ v ≤ 7) ∧ True))) := by
    intro k_
    induction k_ with
    | zero => intro l4_1 l4_2 i31 i32 hm; exact absurd hm (Nat.not_lt_zero _)
    | succ k_ ih_loop33 =>
      intro l4_1 l4_2 i31 i32 hm
      refine go_ifq PM129 (k := 2) (p1 := 33) (p2 := 10) (L' := [some (.inr (.inr (some 0))), some (.inl l4_1), some (.inl l4_2)]) (st' := []) (w' := (SH, dt)) rfl (c_ge (a := l4_2) (b := 8) (by first | exact bnd i32 (by decide) (by decide) | exact ⟨by fail, by fail⟩) ⟨by decide, by decide⟩) (fun c39 => ?_) (fun c39 => ?_)
      · skip
        refine go_retq PM129 (k := 1) (r := some (.inl l4_1)) (w1 := (SH, dt)) rfl ?_
        exact ⟨rfl, ⟨_, rfl, (by first | exact bnd i31 (by decide) (by decide) | exact ⟨by fail, by fail⟩), trivial⟩⟩
      · skip
        refine go_toq PM129 (k := 3) (pc' := 15) (L' := [some (.inr (.inr (some 0))), some (.inl l4_1), some (.inl l4_2)]) (st' := [.inl l4_2, .inr (.inr (some 75))]) (w' := (SH, dt)) rfl ?_
        have r40 : (-2147483648) ≤ dt 75 (l4_2).toNat ∧ dt 75 (l4_2).toNat ≤ 2147483647 := InvC_get hI 75 (l4_2).toNat rfl rfl
        refine go_smpq PM129 (L' := [some (.inr (.inr (some 0))), some (.inl l4_1), some (.inl l4_2)]) (st' := [.inl (dt 75 (l4_2).toNat)]) (w' := (SH, dt)) rfl rfl (s_iald (n := 8) (f := dt 75) rfl (by first | exact bndc i32 c39 (by decide) (by decide) | exact bndx i32 (by decide) (by decide) | exact ⟨by fail, by fail⟩)) ?_
        refine go_toq PM129 (k := 3) (pc' := 21) (L' := [some (.inr (.inr (some 0))), some (.inl l4_1), some (.inl l4_2)]) (st' := [.inl l4_1, .inr (.inr (some 75)), .inl (dt 75 (l4_2).toNat)]) (w' := (SH, dt)) rfl ?_
        have r41 : (-2147483648) ≤ dt 75 (l4_1).toNat ∧ dt 75 (l4_1).toNat ≤ 2147483647 := InvC_get hI 75 (l4_1).toNat rfl rfl
        refine go_smpq PM129 (L' := [some (.inr (.inr (some 0))), some (.inl l4_1), some (.inl l4_2)]) (st' := [.inl (dt 75 (l4_1).toNat), .inl (dt 75 (l4_2).toNat)]) (w' := (SH, dt)) rfl rfl (s_iald (n := 8) (f := dt 75) rfl (by first | exact bndx i31 (by decide) (by decide) | exact ⟨by fail, by fail⟩)) ?_
        have j43 : ∀ (j43_a1 : Int) (i44 : 0 ≤ j43_a1 ∧ j43_a1 ≤ 7), GO (am_XX L xs sio) (d) 129 27 [some (.inr (.inr (some 0))), some (.inl j43_a1), some (.inl l4_2)] [] (SH, dt) (fun r w2 => w2 = (SH, dt) ∧ ((∃ v : Int, r = some (.inl v) ∧ (0 ≤ v ∧ v ≤ 7) ∧ True))) := by
          intro j43_a1 i44
          refine go_toq PM129 (k := 2) (pc' := 4) (L' := [some (.inr (.inr (some 0))), some (.inl j43_a1), some (.inl (l4_2 + 1))]) (st' := []) (w' := (SH, dt)) rfl ?_
          exact GO.le (ih_loop33 j43_a1 (l4_2 + 1) (by first | exact bnd i44 (by decide) (by decide) | fail) (by first | exact bndp i32 (by decide) (by decide) | exact bnde i32 c39 (by decide) (by decide) | fail) (by omega)) ⟨.inl rfl, .inl rfl, .inl rfl, trivial⟩
        refine go_ifq PM129 (k := 0) (p1 := 27) (p2 := 25) (L' := [some (.inr (.inr (some 0))), some (.inl l4_1), some (.inl l4_2)]) (st' := []) (w' := (SH, dt)) rfl (c_le (a := dt 75 (l4_2).toNat) (b := dt 75 (l4_1).toNat) (by first | exact bnd r40 (by decide) (by decide) | exact ⟨by fail, by fail⟩) (by first | exact bnd r41 (by decide) (by decide) | exact ⟨by fail, by fail⟩)) (fun c45 => ?_) (fun c45 => ?_)
        · skip
          exact GO.le (j43 l4_1 (by first | exact bnd i31 (by decide) (by decide) | fail)) ⟨.inl rfl, .inl rfl, .inl rfl, trivial⟩
        · skip
          refine go_toq PM129 (k := 2) (pc' := 27) (L' := [some (.inr (.inr (some 0))), some (.inl l4_2), some (.inl l4_2)]) (st' := []) (w' := (SH, dt)) rfl ?_
          exact GO.le (j43 l4_2 (by first | exact bnd i32 (by decide) (by decide) | omega)) ⟨.inl rfl, .inl rfl, .inl rfl, trivial⟩
  exact GO.le (loop33 _ 0 1 ⟨by decide, by decide⟩ ⟨by decide, by decide⟩ (Nat.lt_succ_self _)) ⟨.inl rfl, .inl rfl, .inl rfl, trivial⟩
theorem sp_X5_itsRule (L : Nat) (xs : Nat → Int32) (sio : Option Nat) (d : Nat) (dt : Nat → Nat → Int) (hI : InvC dt)  (p1 : Int) (h_p1 : (-2147483648) ≤ p1 ∧ p1 ≤ 2147483647)  : GO (am_XX L xs sio) (d + 4) 130 0 [some (.inr (.inr (some 0))), some (.inl p1)] [] (SH, dt) (fun r w2 => ∃ dt2 : Nat → Nat → Int, w2 = (SH, dt2) ∧ InvC dt2 ∧ Fr [75] dt dt2 ∧ ((∃ v : Int, r = some (.inl v) ∧ (0 ≤ v ∧ v ≤ 7) ∧ True))) := by
  have hF : Fr [75] dt dt := Fr_refl
  refine go_toq PM130 (k := 2) (pc' := 2) (L' := [some (.inr (.inr (some 0))), some (.inl p1)]) (st' := [.inl p1, .inr (.inr (some 0))]) (w' := (SH, dt)) rfl ?_
  refine go_callq PM130 PM126 (Q' := _) rfl rfl rfl rfl (sp_X5_countAgreed L xs sio (d + 0) dt hI  p1 (by first | exact h_p1 | exact bnd h_p1 (by decide) (by decide) | exact ⟨by fail, by fail⟩) ) ?_
  rintro _ _ ⟨dt2, rfl, hI3, hF4, h1⟩
  refine ⟨rfl, ?_⟩
  have hF5 : Fr [75] dt dt2 := Fr_tr hF hF4 (by decide)
  rcases h1 with ⟨rfl, h1⟩
  refine go_toq PM130 (k := 1) (pc' := 6) (L' := [some (.inr (.inr (some 0))), some (.inl p1)]) (st' := [.inr (.inr (some 0))]) (w' := (SH, dt2)) rfl ?_
  refine go_callq PM130 PM129 (Q' := _) rfl rfl rfl rfl (sp_X5_mostAgreed L xs sio (d + 3) dt2 hI3   ) ?_
  rintro _ _ ⟨rfl, h6⟩
  refine ⟨rfl, ?_⟩
  rcases h6 with ⟨v_h6, rfl, h6r, h6⟩
  refine go_retq PM130 (k := 0) (r := some (.inl v_h6)) (w1 := (SH, dt2)) rfl ?_
  exact ⟨dt2, rfl, hI3, hF5, ⟨_, rfl, (by first | exact bnd h6r (by decide) (by decide) | exact ⟨by fail, by fail⟩), trivial⟩⟩
theorem sp_X5_isRight (L : Nat) (xs : Nat → Int32) (sio : Option Nat) (d : Nat) (dt : Nat → Nat → Int) (hI : InvC dt)  (p1 : Int) (h_p1 : (-2147483648) ≤ p1 ∧ p1 ≤ 2147483647)  : GO (am_XX L xs sio) (d + 2) 132 0 [some (.inr (.inr (some 0))), some (.inl p1)] [] (SH, dt) (fun r w2 => w2 = (SH, dt) ∧ ((r = some (.inl 1) ∧ True) ∨ (r = some (.inl 0) ∧ True))) := by
  refine go_toq PM132 (k := 5) (pc' := 9) (L' := [some (.inr (.inr (some 0))), some (.inl p1)]) (st' := [.inl 3, .inl p1, .inr (.inr (some 12))]) (w' := (SH, dt)) rfl ?_
  refine go_callq PM132 PM39 (Q' := _) rfl rfl rfl rfl (sp_X2_at_12 L xs sio (d + 0) dt hI  p1 (by first | exact h_p1 | exact bnd h_p1 (by decide) (by decide) | exact ⟨by fail, by fail⟩) 3 ⟨by decide, by decide⟩ ) ?_
  rintro _ _ ⟨rfl, h1⟩
  refine ⟨rfl, ?_⟩
  rcases h1 with ⟨v_h1, rfl, h1r, h1⟩
  refine go_toq PM132 (k := 7) (pc' := 25) (L' := [some (.inr (.inr (some 0))), some (.inl p1)]) (st' := [.inl 1, .inl p1, .inr (.inr (some 12)), .inr (.inr (some 1)), .inl v_h1]) (w' := (SH, dt)) rfl ?_
  refine go_callq PM132 PM39 (Q' := _) rfl rfl rfl rfl (sp_X2_at_12 L xs sio (d + 0) dt hI  p1 (by first | exact h_p1 | exact bnd h_p1 (by decide) (by decide) | exact ⟨by fail, by fail⟩) 1 ⟨by decide, by decide⟩ ) ?_
  rintro _ _ ⟨rfl, h2⟩
  refine ⟨rfl, ?_⟩
  rcases h2 with ⟨v_h2, rfl, h2r, h2⟩
  refine go_toq PM132 (k := 1) (pc' := 30) (L' := [some (.inr (.inr (some 0))), some (.inl p1)]) (st' := [.inl 8, .inl v_h2, .inr (.inr (some 1)), .inl v_h1]) (w' := (SH, dt)) rfl ?_
  refine go_callq PM132 PM1 (Q' := _) rfl rfl rfl rfl (sp_X0_saidOf L xs sio (d + 0) dt hI  v_h2 (by first | exact bnd h2r (by decide) (by decide) | exact ⟨by fail, by fail⟩) 8 ⟨by decide, by decide⟩ ) ?_
  rintro _ _ ⟨rfl, h3⟩
  refine ⟨rfl, ?_⟩
  rcases h3 with ⟨v_h3, rfl, h3r, h3⟩
  refine go_ifq PM132 (k := 0) (p1 := 40) (p2 := 36) (L' := [some (.inr (.inr (some 0))), some (.inl p1)]) (st' := []) (w' := (SH, dt)) rfl (c_ne (a := v_h1) (b := v_h3) (by first | exact bnd h1r (by decide) (by decide) | exact ⟨by fail, by fail⟩) (by first | exact bnd h3r (by decide) (by decide) | exact ⟨by fail, by fail⟩)) (fun c5 => ?_) (fun c5 => ?_)
  · skip
    replace c5 := hid c5
    refine go_retq PM132 (k := 1) (r := some (.inl 0)) (w1 := (SH, dt)) rfl ?_
    exact ⟨rfl, (Or.inr ⟨rfl, trivial⟩)⟩
  · skip
    refine go_retq PM132 (k := 2) (r := some (.inl 1)) (w1 := (SH, dt)) rfl ?_
    exact ⟨rfl, (Or.inl ⟨rfl, trivial⟩)⟩
theorem sp_X5_lastRight (L : Nat) (xs : Nat → Int32) (sio : Option Nat) (d : Nat) (dt : Nat → Nat → Int) (hI : InvC dt)  (p1 : Int) (h_p1 : (-2147483648) ≤ p1 ∧ p1 ≤ 2147483647) (p2 : Int) (h_p2 : (-2147483648) ≤ p2 ∧ p2 ≤ 2147483647)  : GO (am_XX L xs sio) (d + 3) 131 0 [some (.inr (.inr (some 0))), some (.inl p1), some (.inl p2), none, none] [] (SH, dt) (fun r w2 => w2 = (SH, dt) ∧ ((r = some (.inl 1) ∧ True) ∨ (r = some (.inl 0) ∧ True) ∨ (r = some (.inl (-1)) ∧ True))) := by
  have r1 : 0 ≤ dt 12 3 ∧ dt 12 3 ≤ 300 := InvC_get hI 12 3 rfl rfl
  refine go_toq PM131 (k := 7) (pc' := 13) (L' := [some (.inr (.inr (some 0))), some (.inl p1), some (.inl p2), some (.inl ((dt 12 3) - 1)), none]) (st' := []) (w' := (SH, dt)) rfl ?_
  have loop9 : ∀ (k_ : Nat) (l13_3 : Int) (i8 : (-1) ≤ l13_3 ∧ l13_3 ≤ 299), (l13_3 + 2).toNat < k_ → GO (am_XX L xs sio) (d + 3) 131 13 [some (.inr (.inr (some 0))), some (.inl p1), some (.inl p2), some (.inl l13_3), none] [] (SH, dt) (fun r w2 => w2 = (SH, dt) ∧ ((r = some (.inl 1) ∧ True) ∨ (r = some (.inl 0) ∧ True) ∨ (r = some (.inl (-1)) ∧ True))) := by
    intro k_
    induction k_ with
    | zero => intro l13_3 i8 hm; exact absurd hm (Nat.not_lt_zero _)
    | succ k_ ih_loop9 =>
      intro l13_3 i8 hm
      refine go_ifq PM131 (k := 1) (p1 := 77) (p2 := 17) (L' := [some (.inr (.inr (some 0))), some (.inl p1), some (.inl p2), some (.inl l13_3), none]) (st' := []) (w' := (SH, dt)) rfl (z_lt (a := l13_3) (by first | exact bnd i8 (by decide) (by decide) | exact ⟨by fail, by fail⟩)) (fun c10 => ?_) (fun c10 => ?_)
      · skip
        refine go_retq PM131 (k := 1) (r := some (.inl (-1))) (w1 := (SH, dt)) rfl ?_
        exact ⟨rfl, (Or.inr (Or.inr ⟨rfl, trivial⟩))⟩
      · skip
        refine go_toq PM131 (k := 5) (pc' := 26) (L' := [some (.inr (.inr (some 0))), some (.inl p1), some (.inl p2), some (.inl l13_3), none]) (st' := [.inl 1, .inl l13_3, .inr (.inr (some 12))]) (w' := (SH, dt)) rfl ?_
        refine go_callq PM131 PM39 (Q' := _) rfl rfl rfl rfl (sp_X2_at_12 L xs sio (d + 1) dt hI  l13_3 (by first | exact bnd i8 (by decide) (by decide) | exact ⟨by fail, by fail⟩) 1 ⟨by decide, by decide⟩ ) ?_
        rintro _ _ ⟨rfl, h11⟩
        refine ⟨rfl, ?_⟩
        rcases h11 with ⟨v_h11, rfl, h11r, h11⟩
        refine go_toq PM131 (k := 6) (pc' := 40) (L' := [some (.inr (.inr (some 0))), some (.inl p1), some (.inl p2), some (.inl l13_3), some (.inl v_h11)]) (st' := [.inl 0, .inl l13_3, .inr (.inr (some 12))]) (w' := (SH, dt)) rfl ?_
        refine go_callq PM131 PM39 (Q' := _) rfl rfl rfl rfl (sp_X2_at_12 L xs sio (d + 1) dt hI  l13_3 (by first | exact bnd i8 (by decide) (by decide) | exact ⟨by fail, by fail⟩) 0 ⟨by decide, by decide⟩ ) ?_
        rintro _ _ ⟨rfl, h12⟩
        refine ⟨rfl, ?_⟩
        rcases h12 with ⟨v_h12, rfl, h12r, h12⟩
        refine go_ifq PM131 (k := 1) (p1 := 71) (p2 := 47) (L' := [some (.inr (.inr (some 0))), some (.inl p1), some (.inl p2), some (.inl l13_3), some (.inl v_h11)]) (st' := []) (w' := (SH, dt)) rfl (c_ne (a := v_h12) (b := p1) (by first | exact bnd h12r (by decide) (by decide) | exact ⟨by fail, by fail⟩) (by first | exact bnd h_p1 (by decide) (by decide) | exact ⟨by fail, by fail⟩)) (fun c13 => ?_) (fun c13 => ?_)
        · skip
          replace c13 := hid c13
          refine go_toq PM131 (k := 2) (pc' := 13) (L' := [some (.inr (.inr (some 0))), some (.inl p1), some (.inl p2), some (.inl (l13_3 + (-1))), some (.inl v_h11)]) (st' := []) (w' := (SH, dt)) rfl ?_
          exact GO.le (ih_loop9 (l13_3 + (-1)) (by omega) (by omega)) ⟨.inl rfl, .inl rfl, .inl rfl, .inl rfl, .inr ⟨rfl, trivial⟩, trivial⟩
        · skip
          refine go_toq PM131 (k := 3) (pc' := 51) (L' := [some (.inr (.inr (some 0))), some (.inl p1), some (.inl p2), some (.inl l13_3), some (.inl v_h11)]) (st' := [.inl p2, .inl v_h11, .inr (.inr (some 0))]) (w' := (SH, dt)) rfl ?_
          refine go_callq PM131 PM117 (Q' := _) rfl rfl rfl rfl (sp_X5_isTelling L xs sio (d + 0) dt hI  v_h11 (by first | exact bnd h11r (by decide) (by decide) | exact ⟨by fail, by fail⟩) p2 (by first | exact h_p2 | exact bnd h_p2 (by decide) (by decide) | exact ⟨by fail, by fail⟩) ) ?_
          rintro _ _ ⟨rfl, h14⟩
          refine ⟨rfl, ?_⟩
          rcases h14 with ⟨rfl, h14⟩ | ⟨rfl, h14⟩
          · skip
            refine go_toq PM131 (k := 3) (pc' := 59) (L' := [some (.inr (.inr (some 0))), some (.inl p1), some (.inl p2), some (.inl l13_3), some (.inl v_h11)]) (st' := [.inl l13_3, .inr (.inr (some 0))]) (w' := (SH, dt)) rfl ?_
            refine go_callq PM131 PM132 (Q' := _) rfl rfl rfl rfl (sp_X5_isRight L xs sio (d + 0) dt hI  l13_3 (by first | exact bnd i8 (by decide) (by decide) | exact ⟨by fail, by fail⟩) ) ?_
            rintro _ _ ⟨rfl, h15⟩
            refine ⟨rfl, ?_⟩
            rcases h15 with ⟨rfl, h15⟩ | ⟨rfl, h15⟩
            · skip
              refine go_retq PM131 (k := 3) (r := some (.inl 1)) (w1 := (SH, dt)) rfl ?_
              exact ⟨rfl, (Or.inl ⟨rfl, trivial⟩)⟩
            · skip
              refine go_retq PM131 (k := 2) (r := some (.inl 0)) (w1 := (SH, dt)) rfl ?_
              exact ⟨rfl, (Or.inr (Or.inl ⟨rfl, trivial⟩))⟩
          · skip
            refine go_toq PM131 (k := 3) (pc' := 13) (L' := [some (.inr (.inr (some 0))), some (.inl p1), some (.inl p2), some (.inl (l13_3 + (-1))), some (.inl v_h11)]) (st' := []) (w' := (SH, dt)) rfl ?_
            exact GO.le (ih_loop9 (l13_3 + (-1)) (by omega) (by omega)) ⟨.inl rfl, .inl rfl, .inl rfl, .inl rfl, .inr ⟨rfl, trivial⟩, trivial⟩
  exact GO.le (loop9 _ ((dt 12 3) - 1) (by omega) (Nat.lt_succ_self _)) ⟨.inl rfl, .inl rfl, .inl rfl, .inl rfl, .inl rfl, trivial⟩
theorem sp_X5_isRare (L : Nat) (xs : Nat → Int32) (sio : Option Nat) (d : Nat) (dt : Nat → Nat → Int) (hI : InvC dt)  (p1 : Int) (h_p1 : (-2147483648) ≤ p1 ∧ p1 ≤ 2147483647) (p2 : Int) (h_p2 : (-2147483648) ≤ p2 ∧ p2 ≤ 2147483647)  : GO (am_XX L xs sio) (d) 134 0 [some (.inl p1), some (.inl p2), none, none, none, none, none] [] (SH, dt) (fun r w2 => w2 = (SH, dt) ∧ ((r = some (.inl 1) ∧ True) ∨ (r = some (.inl 0) ∧ True))) := by
  refine go_toq PM134 (k := 6) (pc' := 8) (L' := [some (.inl p1), some (.inl p2), some (.inr (.inl 1)), none, some (.inr (.inl 0)), none, some (.inl 0)]) (st' := []) (w' := (SH, dt)) rfl ?_
  have loop34 : ∀ (k_ : Nat) (l8_2 : Int) (l8_4 : Int) (l8_6 : Int) (i33 : 0 ≤ l8_6 ∧ l8_6 ≤ 41), (42 - l8_6).toNat < k_ → GO (am_XX L xs sio) (d) 134 8 [some (.inl p1), some (.inl p2), some (.inr (.inl l8_2)), none, some (.inr (.inl l8_4)), none, some (.inl l8_6)] [] (SH, dt) (fun r w2 => w2 = (SH, dt) ∧ ((r = some (.inl 1) ∧ True) ∨ (r = some (.inl 0) ∧ True))) := by
    intro k_
    induction k_ with
    | zero => intro l8_2 l8_4 l8_6 i33 hm; exact absurd hm (Nat.not_lt_zero _)
    | succ k_ ih_loop34 =>
      intro l8_2 l8_4 l8_6 i33 hm
      have j38 :  GO (am_XX L xs sio) (d) 134 57 [none, some (.inl p2), none, none, some (.inr (.inl l8_4)), none, none] [] (SH, dt) (fun r w2 => w2 = (SH, dt) ∧ ((r = some (.inl 1) ∧ True) ∨ (r = some (.inl 0) ∧ True))) := by
        skip
        refine go_toq PM134 (k := 6) (pc' := 68) (L' := [none, some (.inl p2), none, none, some (.inr (.inl l8_4)), none, none]) (st' := [.inr (.inl 50), .inr (.inl (am_lshr (l8_4 * 1000) p2))]) (w' := (SH, dt)) rfl ?_
        rcases Int.lt_trichotomy (wl (am_lshr (l8_4 * 1000) p2)) 50 with c40 | c40 | c40
        · refine go_smpq PM134 (L' := [none, some (.inl p2), none, none, some (.inr (.inl l8_4)), none, none]) (st' := [.inl (-1)]) (w' := (SH, dt)) rfl rfl (s_lclw (a' := (wl (am_lshr (l8_4 * 1000) p2))) (b' := 50) rfl rfl c40) ?_
          refine go_retq PM134 (k := 3) (r := some (.inl 1)) (w1 := (SH, dt)) rfl ?_
          exact ⟨rfl, (Or.inl ⟨rfl, trivial⟩)⟩
        · refine go_smpq PM134 (L' := [none, some (.inl p2), none, none, some (.inr (.inl l8_4)), none, none]) (st' := [.inl 0]) (w' := (SH, dt)) rfl rfl (s_lcew (a' := (wl (am_lshr (l8_4 * 1000) p2))) (b' := 50) rfl rfl c40) ?_
          refine go_retq PM134 (k := 2) (r := some (.inl 0)) (w1 := (SH, dt)) rfl ?_
          exact ⟨rfl, (Or.inr ⟨rfl, trivial⟩)⟩
        · refine go_smpq PM134 (L' := [none, some (.inl p2), none, none, some (.inr (.inl l8_4)), none, none]) (st' := [.inl 1]) (w' := (SH, dt)) rfl rfl (s_lcgw (a' := (wl (am_lshr (l8_4 * 1000) p2))) (b' := 50) rfl rfl c40) ?_
          refine go_retq PM134 (k := 2) (r := some (.inl 0)) (w1 := (SH, dt)) rfl ?_
          exact ⟨rfl, (Or.inr ⟨rfl, trivial⟩)⟩
      refine go_ifq PM134 (k := 2) (p1 := 57) (p2 := 14) (L' := [some (.inl p1), some (.inl p2), some (.inr (.inl l8_2)), none, some (.inr (.inl l8_4)), none, some (.inl l8_6)]) (st' := []) (w' := (SH, dt)) rfl (c_gt (a := l8_6) (b := p2) (by first | exact bnd i33 (by decide) (by decide) | exact ⟨by fail, by fail⟩) (by first | exact bnd h_p2 (by decide) (by decide) | exact ⟨by fail, by fail⟩)) (fun c41 => ?_) (fun c41 => ?_)
      · skip
        exact GO.le (j38 ) ⟨.inr ⟨rfl, trivial⟩, .inl rfl, .inr ⟨rfl, trivial⟩, .inl rfl, .inl rfl, .inl rfl, .inr ⟨rfl, trivial⟩, trivial⟩
      · skip
        refine go_ifq PM134 (k := 2) (p1 := 57) (p2 := 21) (L' := [some (.inl p1), some (.inl p2), some (.inr (.inl l8_2)), none, some (.inr (.inl l8_4)), none, some (.inl l8_6)]) (st' := []) (w' := (SH, dt)) rfl (c_gt (a := l8_6) (b := 40) (by first | exact bnd i33 (by decide) (by decide) | exact ⟨by fail, by fail⟩) ⟨by decide, by decide⟩) (fun c42 => ?_) (fun c42 => ?_)
        · skip
          exact GO.le (j38 ) ⟨.inr ⟨rfl, trivial⟩, .inl rfl, .inr ⟨rfl, trivial⟩, .inl rfl, .inl rfl, .inl rfl, .inr ⟨rfl, trivial⟩, trivial⟩
        · skip
          refine go_ifq PM134 (k := 3) (p1 := 33) (p2 := 29) (L' := [some (.inl p1), some (.inl p2), some (.inr (.inl l8_2)), none, some (.inr (.inl l8_4)), none, some (.inl l8_6)]) (st' := [.inr (.inl l8_4)]) (w' := (SH, dt)) rfl (c_lt (a := l8_6) (b := p1) (by first | exact bnd i33 (by decide) (by decide) | exact ⟨by fail, by fail⟩) (by first | exact bnd h_p1 (by decide) (by decide) | exact ⟨by fail, by fail⟩)) (fun c44 => ?_) (fun c44 => ?_)
          · skip
            refine go_toq PM134 (k := 7) (pc' := 42) (L' := [some (.inl p1), some (.inl p2), some (.inr (.inl l8_2)), none, some (.inr (.inl (l8_4 + 0))), none, some (.inl l8_6)]) (st' := [.inl (p2 - l8_6), .inr (.inl l8_2)]) (w' := (SH, dt)) rfl ?_
            refine go_smpq PM134 (L' := [some (.inl p1), some (.inl p2), some (.inr (.inl l8_2)), none, some (.inr (.inl (l8_4 + 0))), none, some (.inl l8_6)]) (st' := [.inr (.inl (p2 - l8_6)), .inr (.inl l8_2)]) (w' := (SH, dt)) rfl rfl (s_i2l ⟨by omega, by omega⟩) ?_
            refine go_toq PM134 (k := 4) (pc' := 48) (L' := [some (.inl p1), some (.inl p2), some (.inr (.inl l8_2)), none, some (.inr (.inl (l8_4 + 0))), none, some (.inl l8_6)]) (st' := [.inl (l8_6 + 1), .inr (.inl (l8_2 * (p2 - l8_6)))]) (w' := (SH, dt)) rfl ?_
            refine go_smpq PM134 (L' := [some (.inl p1), some (.inl p2), some (.inr (.inl l8_2)), none, some (.inr (.inl (l8_4 + 0))), none, some (.inl l8_6)]) (st' := [.inr (.inl (l8_6 + 1)), .inr (.inl (l8_2 * (p2 - l8_6)))]) (w' := (SH, dt)) rfl rfl (s_i2l ⟨by omega, by omega⟩) ?_
            refine go_smpq PM134 (L' := [some (.inl p1), some (.inl p2), some (.inr (.inl l8_2)), none, some (.inr (.inl (l8_4 + 0))), none, some (.inl l8_6)]) (st' := [.inr (.inl ((wl (l8_2 * (p2 - l8_6))).tdiv (wl (l8_6 + 1))))]) (w' := (SH, dt)) rfl rfl (s_ldiv (by rw [wl_id (by omega) (by omega)]; omega)) ?_
            refine go_toq PM134 (k := 3) (pc' := 8) (L' := [some (.inl p1), some (.inl p2), some (.inr (.inl ((wl (l8_2 * (p2 - l8_6))).tdiv (wl (l8_6 + 1))))), none, some (.inr (.inl (l8_4 + 0))), none, some (.inl (l8_6 + 1))]) (st' := []) (w' := (SH, dt)) rfl ?_
            exact GO.le (ih_loop34 ((wl (l8_2 * (p2 - l8_6))).tdiv (wl (l8_6 + 1))) (l8_4 + 0) (l8_6 + 1) (by first | exact bndp i33 (by decide) (by decide) | omega) (by omega)) ⟨.inl rfl, .inl rfl, .inl rfl, .inl rfl, .inl rfl, .inl rfl, .inl rfl, trivial⟩
          · skip
            refine go_toq PM134 (k := 8) (pc' := 42) (L' := [some (.inl p1), some (.inl p2), some (.inr (.inl l8_2)), none, some (.inr (.inl (l8_4 + l8_2))), none, some (.inl l8_6)]) (st' := [.inl (p2 - l8_6), .inr (.inl l8_2)]) (w' := (SH, dt)) rfl ?_
            refine go_smpq PM134 (L' := [some (.inl p1), some (.inl p2), some (.inr (.inl l8_2)), none, some (.inr (.inl (l8_4 + l8_2))), none, some (.inl l8_6)]) (st' := [.inr (.inl (p2 - l8_6)), .inr (.inl l8_2)]) (w' := (SH, dt)) rfl rfl (s_i2l ⟨by omega, by omega⟩) ?_
            refine go_toq PM134 (k := 4) (pc' := 48) (L' := [some (.inl p1), some (.inl p2), some (.inr (.inl l8_2)), none, some (.inr (.inl (l8_4 + l8_2))), none, some (.inl l8_6)]) (st' := [.inl (l8_6 + 1), .inr (.inl (l8_2 * (p2 - l8_6)))]) (w' := (SH, dt)) rfl ?_
            refine go_smpq PM134 (L' := [some (.inl p1), some (.inl p2), some (.inr (.inl l8_2)), none, some (.inr (.inl (l8_4 + l8_2))), none, some (.inl l8_6)]) (st' := [.inr (.inl (l8_6 + 1)), .inr (.inl (l8_2 * (p2 - l8_6)))]) (w' := (SH, dt)) rfl rfl (s_i2l ⟨by omega, by omega⟩) ?_
            refine go_smpq PM134 (L' := [some (.inl p1), some (.inl p2), some (.inr (.inl l8_2)), none, some (.inr (.inl (l8_4 + l8_2))), none, some (.inl l8_6)]) (st' := [.inr (.inl ((wl (l8_2 * (p2 - l8_6))).tdiv (wl (l8_6 + 1))))]) (w' := (SH, dt)) rfl rfl (s_ldiv (by rw [wl_id (by omega) (by omega)]; omega)) ?_
            refine go_toq PM134 (k := 3) (pc' := 8) (L' := [some (.inl p1), some (.inl p2), some (.inr (.inl ((wl (l8_2 * (p2 - l8_6))).tdiv (wl (l8_6 + 1))))), none, some (.inr (.inl (l8_4 + l8_2))), none, some (.inl (l8_6 + 1))]) (st' := []) (w' := (SH, dt)) rfl ?_
            exact GO.le (ih_loop34 ((wl (l8_2 * (p2 - l8_6))).tdiv (wl (l8_6 + 1))) (l8_4 + l8_2) (l8_6 + 1) (by first | exact bndp i33 (by decide) (by decide) | omega) (by omega)) ⟨.inl rfl, .inl rfl, .inl rfl, .inl rfl, .inl rfl, .inl rfl, .inl rfl, trivial⟩
  exact GO.le (loop34 _ 1 0 0 ⟨by decide, by decide⟩ (Nat.lt_succ_self _)) ⟨.inl rfl, .inl rfl, .inl rfl, .inl rfl, .inl rfl, .inl rfl, .inl rfl, trivial⟩
theorem sp_X5_isLong (L : Nat) (xs : Nat → Int32) (sio : Option Nat) (d : Nat) (dt : Nat → Nat → Int) (hI : InvC dt)  (p1 : Int) (h_p1 : 0 ≤ p1 ∧ p1 ≤ 23)  : GO (am_XX L xs sio) (d + 2) 133 0 [some (.inr (.inr (some 0))), some (.inl p1), none, none, none, none, none, none, none, none, none, none] [] (SH, dt) (fun r w2 => w2 = (SH, dt) ∧ ((r = some (.inl 1) ∧ True) ∨ (r = some (.inl 0) ∧ True))) := by
  refine go_toq PM133 (k := 3) (pc' := 6) (L' := [some (.inr (.inr (some 0))), some (.inl p1), none, none, none, none, none, none, none, none, none, none]) (st' := [.inl 6, .inl p1, .inr (.inr (some 3001))]) (w' := (SH, dt)) rfl ?_
  refine go_smpq PM133 (L' := [some (.inr (.inr (some 0))), some (.inl p1), none, none, none, none, none, none, none, none, none, none]) (st' := [.inl (p1 / 6), .inr (.inr (some 3001))]) (w' := (SH, dt)) rfl rfl (s_idivc ⟨by omega, by omega⟩ ⟨by omega, by omega⟩) ?_
  refine go_toq PM133 (k := 2) (pc' := 11) (L' := [some (.inr (.inr (some 0))), some (.inl p1), none, none, none, none, none, none, none, none, none, none]) (st' := [.inl 4, .inl (p1 / 6), .inr (.inr (some 3001))]) (w' := (SH, dt)) rfl ?_
  refine go_callq PM133 PM263 (Q' := _) rfl rfl rfl rfl (sp_J9_floorMod_7cf53_4 L xs sio (d + 1) dt hI  (p1 / 6) ⟨by omega, by omega⟩ ) ?_
  rintro _ _ ⟨rfl, h1⟩
  refine ⟨rfl, ?_⟩
  rcases h1 with ⟨v_h1, rfl, h1r, h1⟩
  have r2 := lea_R (v_h1).toNat
  refine go_smpq PM133 (L' := [some (.inr (.inr (some 0))), some (.inl p1), none, none, none, none, none, none, none, none, none, none]) (st' := [.inl (([0, 100, 300, 600] : List Int).getD (v_h1).toNat 0)]) (w' := (SH, dt)) rfl rfl (s_iald (n := 4) (f := fun q => ([0, 100, 300, 600] : List Int).getD q 0) rfl ⟨by omega, by omega⟩) ?_
  refine go_toq PM133 (k := 3) (pc' := 18) (L' := [some (.inr (.inr (some 0))), some (.inl p1), some (.inl (([0, 100, 300, 600] : List Int).getD (v_h1).toNat 0)), none, none, none, none, none, none, none, none, none]) (st' := [.inl 2, .inl p1]) (w' := (SH, dt)) rfl ?_
  refine go_smpq PM133 (L' := [some (.inr (.inr (some 0))), some (.inl p1), some (.inl (([0, 100, 300, 600] : List Int).getD (v_h1).toNat 0)), none, none, none, none, none, none, none, none, none]) (st' := [.inl (p1 / 2)]) (w' := (SH, dt)) rfl rfl (s_idivc ⟨by omega, by omega⟩ ⟨by omega, by omega⟩) ?_
  refine go_toq PM133 (k := 1) (pc' := 20) (L' := [some (.inr (.inr (some 0))), some (.inl p1), some (.inl (([0, 100, 300, 600] : List Int).getD (v_h1).toNat 0)), none, none, none, none, none, none, none, none, none]) (st' := [.inl 3, .inl (p1 / 2)]) (w' := (SH, dt)) rfl ?_
  refine go_smpq PM133 (L' := [some (.inr (.inr (some 0))), some (.inl p1), some (.inl (([0, 100, 300, 600] : List Int).getD (v_h1).toNat 0)), none, none, none, none, none, none, none, none, none]) (st' := [.inl ((p1 / 2) % 3)]) (w' := (SH, dt)) rfl rfl (s_iremc ⟨by omega, by omega⟩ ⟨by omega, by omega⟩) ?_
  refine go_toq PM133 (k := 11) (pc' := 37) (L' := [some (.inr (.inr (some 0))), some (.inl p1), some (.inl (([0, 100, 300, 600] : List Int).getD (v_h1).toNat 0)), some (.inl ((p1 / 2) % 3)), some (.inl 0), some (.inl 0), some (.inl 0), some (.inl 0), some (.inl 0), none, none, none]) (st' := []) (w' := (SH, dt)) rfl ?_
  have loop296 : ∀ (k_ : Nat) (l37_4 : Int) (l37_5 : Int) (l37_6 : Int) (l37_7 : Int) (l37_8 : Int) (i291 : 0 ≤ l37_6 ∧ l37_6 ≤ 40) (i292 : 0 ≤ l37_7 ∧ l37_7 ≤ 40) (i293 : 0 ≤ l37_8 ∧ l37_8 ≤ 40) (i294 : l37_6 ≤ l37_8) (i295 : l37_7 ≤ l37_8), (41 - l37_8).toNat < k_ → GO (am_XX L xs sio) (d + 2) 133 37 [some (.inr (.inr (some 0))), some (.inl p1), some (.inl (([0, 100, 300, 600] : List Int).getD (v_h1).toNat 0)), some (.inl ((p1 / 2) % 3)), some (.inl l37_4), some (.inl l37_5), some (.inl l37_6), some (.inl l37_7), some (.inl l37_8), none, none, none] [] (SH, dt) (fun r w2 => w2 = (SH, dt) ∧ ((r = some (.inl 1) ∧ True) ∨ (r = some (.inl 0) ∧ True))) := by
    intro k_
    induction k_ with
    | zero => intro l37_4 l37_5 l37_6 l37_7 l37_8 i291 i292 i293 i294 i295 hm; exact absurd hm (Nat.not_lt_zero _)
    | succ k_ ih_loop296 =>
      intro l37_4 l37_5 l37_6 l37_7 l37_8 i291 i292 i293 i294 i295 hm
      have r297 : 0 ≤ dt 14 3 ∧ dt 14 3 ≤ 40 := InvC_get hI 14 3 rfl rfl
      refine go_ifq PM133 (k := 5) (p1 := 212) (p2 := 52) (L' := [some (.inr (.inr (some 0))), some (.inl p1), some (.inl (([0, 100, 300, 600] : List Int).getD (v_h1).toNat 0)), some (.inl ((p1 / 2) % 3)), some (.inl l37_4), some (.inl l37_5), some (.inl l37_6), some (.inl l37_7), some (.inl l37_8), none, none, none]) (st' := []) (w' := (SH, dt)) rfl (c_ge (a := l37_8) (b := dt 14 3) (by first | exact bnd i293 (by decide) (by decide) | exact ⟨by fail, by fail⟩) (by first | exact bnd r297 (by decide) (by decide) | exact ⟨by fail, by fail⟩)) (fun c332 => ?_) (fun c332 => ?_)
      · skip
        refine go_toq PM133 (k := 2) (pc' := 214) (L' := [some (.inr (.inr (some 0))), some (.inl p1), some (.inl (([0, 100, 300, 600] : List Int).getD (v_h1).toNat 0)), some (.inl ((p1 / 2) % 3)), some (.inl l37_4), some (.inl l37_5), some (.inl l37_6), some (.inl l37_7), some (.inl l37_8), none, none, none]) (st' := [.inl 2, .inl p1]) (w' := (SH, dt)) rfl ?_
        refine go_smpq PM133 (L' := [some (.inr (.inr (some 0))), some (.inl p1), some (.inl (([0, 100, 300, 600] : List Int).getD (v_h1).toNat 0)), some (.inl ((p1 / 2) % 3)), some (.inl l37_4), some (.inl l37_5), some (.inl l37_6), some (.inl l37_7), some (.inl l37_8), none, none, none]) (st' := [.inl (p1 % 2)]) (w' := (SH, dt)) rfl rfl (s_iremc ⟨by omega, by omega⟩ ⟨by omega, by omega⟩) ?_
        have j339 :  GO (am_XX L xs sio) (d + 2) 133 256 [some (.inr (.inr (some 0))), none, none, none, none, none, none, none, none, none, none, none] [.inl 0] (SH, dt) (fun r w2 => w2 = (SH, dt) ∧ ((r = some (.inl 1) ∧ True) ∨ (r = some (.inl 0) ∧ True))) := by
          skip
          refine go_retq PM133 (k := 0) (r := some (.inl 0)) (w1 := (SH, dt)) rfl ?_
          exact ⟨rfl, (Or.inr ⟨rfl, trivial⟩)⟩
        have j340 :  GO (am_XX L xs sio) (d + 2) 133 256 [some (.inr (.inr (some 0))), none, none, none, none, none, none, none, none, none, none, none] [.inl 1] (SH, dt) (fun r w2 => w2 = (SH, dt) ∧ ((r = some (.inl 1) ∧ True) ∨ (r = some (.inl 0) ∧ True))) := by
          skip
          refine go_retq PM133 (k := 0) (r := some (.inl 1)) (w1 := (SH, dt)) rfl ?_
          exact ⟨rfl, (Or.inl ⟨rfl, trivial⟩)⟩
        refine go_ifq PM133 (k := 0) (p1 := 236) (p2 := 218) (L' := [some (.inr (.inr (some 0))), some (.inl p1), some (.inl (([0, 100, 300, 600] : List Int).getD (v_h1).toNat 0)), some (.inl ((p1 / 2) % 3)), some (.inl l37_4), some (.inl l37_5), some (.inl l37_6), some (.inl l37_7), some (.inl l37_8), none, none, none]) (st' := []) (w' := (SH, dt)) rfl (z_ne (a := p1 % 2) ⟨by omega, by omega⟩) (fun c341 => ?_) (fun c341 => ?_)
        · skip
          replace c341 := hid c341
          refine go_ifq PM133 (k := 1) (p1 := 255) (p2 := 241) (L' := [some (.inr (.inr (some 0))), some (.inl p1), some (.inl (([0, 100, 300, 600] : List Int).getD (v_h1).toNat 0)), some (.inl ((p1 / 2) % 3)), some (.inl l37_4), some (.inl l37_5), some (.inl l37_6), some (.inl l37_7), some (.inl l37_8), none, none, none]) (st' := []) (w' := (SH, dt)) rfl (z_le (a := l37_6) (by first | exact bnd i291 (by decide) (by decide) | exact ⟨by fail, by fail⟩)) (fun c342 => ?_) (fun c342 => ?_)
          · skip
            refine go_toq PM133 (k := 1) (pc' := 256) (L' := [some (.inr (.inr (some 0))), some (.inl p1), some (.inl (([0, 100, 300, 600] : List Int).getD (v_h1).toNat 0)), some (.inl ((p1 / 2) % 3)), some (.inl l37_4), some (.inl l37_5), some (.inl l37_6), some (.inl l37_7), some (.inl l37_8), none, none, none]) (st' := [.inl 0]) (w' := (SH, dt)) rfl ?_
            exact GO.le (j339 ) ⟨.inl rfl, .inr ⟨rfl, trivial⟩, .inr ⟨rfl, trivial⟩, .inr ⟨rfl, trivial⟩, .inr ⟨rfl, trivial⟩, .inr ⟨rfl, trivial⟩, .inr ⟨rfl, trivial⟩, .inr ⟨rfl, trivial⟩, .inr ⟨rfl, trivial⟩, .inl rfl, .inl rfl, .inl rfl, trivial⟩
          · skip
            refine go_toq PM133 (k := 2) (pc' := 245) (L' := [some (.inr (.inr (some 0))), some (.inl p1), some (.inl (([0, 100, 300, 600] : List Int).getD (v_h1).toNat 0)), some (.inl ((p1 / 2) % 3)), some (.inl l37_4), some (.inl l37_5), some (.inl l37_6), some (.inl l37_7), some (.inl l37_8), none, none, none]) (st' := [.inl l37_6, .inl l37_7]) (w' := (SH, dt)) rfl ?_
            refine go_callq PM133 PM134 (Q' := _) rfl rfl rfl rfl (sp_X5_isRare L xs sio (d + 1) dt hI  l37_7 (by first | exact bnd i292 (by decide) (by decide) | exact ⟨by fail, by fail⟩) l37_6 (by first | exact bnd i291 (by decide) (by decide) | exact ⟨by fail, by fail⟩) ) ?_
            rintro _ _ ⟨rfl, h343⟩
            refine ⟨rfl, ?_⟩
            rcases h343 with ⟨rfl, h343⟩ | ⟨rfl, h343⟩
            · skip
              refine go_toq PM133 (k := 3) (pc' := 256) (L' := [some (.inr (.inr (some 0))), some (.inl p1), some (.inl (([0, 100, 300, 600] : List Int).getD (v_h1).toNat 0)), some (.inl ((p1 / 2) % 3)), some (.inl l37_4), some (.inl l37_5), some (.inl l37_6), some (.inl l37_7), some (.inl l37_8), none, none, none]) (st' := [.inl 1]) (w' := (SH, dt)) rfl ?_
              exact GO.le (j340 ) ⟨.inl rfl, .inr ⟨rfl, trivial⟩, .inr ⟨rfl, trivial⟩, .inr ⟨rfl, trivial⟩, .inr ⟨rfl, trivial⟩, .inr ⟨rfl, trivial⟩, .inr ⟨rfl, trivial⟩, .inr ⟨rfl, trivial⟩, .inr ⟨rfl, trivial⟩, .inl rfl, .inl rfl, .inl rfl, trivial⟩
            · skip
              refine go_toq PM133 (k := 2) (pc' := 256) (L' := [some (.inr (.inr (some 0))), some (.inl p1), some (.inl (([0, 100, 300, 600] : List Int).getD (v_h1).toNat 0)), some (.inl ((p1 / 2) % 3)), some (.inl l37_4), some (.inl l37_5), some (.inl l37_6), some (.inl l37_7), some (.inl l37_8), none, none, none]) (st' := [.inl 0]) (w' := (SH, dt)) rfl ?_
              exact GO.le (j339 ) ⟨.inl rfl, .inr ⟨rfl, trivial⟩, .inr ⟨rfl, trivial⟩, .inr ⟨rfl, trivial⟩, .inr ⟨rfl, trivial⟩, .inr ⟨rfl, trivial⟩, .inr ⟨rfl, trivial⟩, .inr ⟨rfl, trivial⟩, .inr ⟨rfl, trivial⟩, .inl rfl, .inl rfl, .inl rfl, trivial⟩
        · skip
          have r345 := wr_RR (l37_4 * 10)
          have r346 := wr_RR l37_5
          refine go_ifq PM133 (k := 4) (p1 := 232) (p2 := 228) (L' := [some (.inr (.inr (some 0))), some (.inl p1), some (.inl (([0, 100, 300, 600] : List Int).getD (v_h1).toNat 0)), some (.inl ((p1 / 2) % 3)), some (.inl l37_4), some (.inl l37_5), some (.inl l37_6), some (.inl l37_7), some (.inl l37_8), none, none, none]) (st' := []) (w' := (SH, dt)) rfl (u_le (a := wr (l37_4 * 10)) (b := wr l37_5)) (fun c344 => ?_) (fun c344 => ?_)
          · skip
            refine go_toq PM133 (k := 2) (pc' := 256) (L' := [some (.inr (.inr (some 0))), some (.inl p1), some (.inl (([0, 100, 300, 600] : List Int).getD (v_h1).toNat 0)), some (.inl ((p1 / 2) % 3)), some (.inl l37_4), some (.inl l37_5), some (.inl l37_6), some (.inl l37_7), some (.inl l37_8), none, none, none]) (st' := [.inl 0]) (w' := (SH, dt)) rfl ?_
            exact GO.le (j339 ) ⟨.inl rfl, .inr ⟨rfl, trivial⟩, .inr ⟨rfl, trivial⟩, .inr ⟨rfl, trivial⟩, .inr ⟨rfl, trivial⟩, .inr ⟨rfl, trivial⟩, .inr ⟨rfl, trivial⟩, .inr ⟨rfl, trivial⟩, .inr ⟨rfl, trivial⟩, .inl rfl, .inl rfl, .inl rfl, trivial⟩
          · skip
            refine go_toq PM133 (k := 2) (pc' := 256) (L' := [some (.inr (.inr (some 0))), some (.inl p1), some (.inl (([0, 100, 300, 600] : List Int).getD (v_h1).toNat 0)), some (.inl ((p1 / 2) % 3)), some (.inl l37_4), some (.inl l37_5), some (.inl l37_6), some (.inl l37_7), some (.inl l37_8), none, none, none]) (st' := [.inl 1]) (w' := (SH, dt)) rfl ?_
            exact GO.le (j340 ) ⟨.inl rfl, .inr ⟨rfl, trivial⟩, .inr ⟨rfl, trivial⟩, .inr ⟨rfl, trivial⟩, .inr ⟨rfl, trivial⟩, .inr ⟨rfl, trivial⟩, .inr ⟨rfl, trivial⟩, .inr ⟨rfl, trivial⟩, .inr ⟨rfl, trivial⟩, .inl rfl, .inl rfl, .inl rfl, trivial⟩
      · skip
        refine go_toq PM133 (k := 5) (pc' := 62) (L' := [some (.inr (.inr (some 0))), some (.inl p1), some (.inl (([0, 100, 300, 600] : List Int).getD (v_h1).toNat 0)), some (.inl ((p1 / 2) % 3)), some (.inl l37_4), some (.inl l37_5), some (.inl l37_6), some (.inl l37_7), some (.inl l37_8), none, none, none]) (st' := [.inl 0, .inl l37_8, .inr (.inr (some 14))]) (w' := (SH, dt)) rfl ?_
        refine go_callq PM133 PM39 (Q' := _) rfl rfl rfl rfl (sp_X2_at_14 L xs sio (d + 0) dt hI  l37_8 (by first | exact bnd i293 (by decide) (by decide) | exact bndd i293 c332 (by decide) (by decide) | exact ⟨by fail, by fail⟩) 0 ⟨by decide, by decide⟩ ) ?_
        rintro _ _ ⟨rfl, h347⟩
        refine ⟨rfl, ?_⟩
        rcases h347 with ⟨v_h347, rfl, h347r, h347⟩
        refine go_toq PM133 (k := 6) (pc' := 77) (L' := [some (.inr (.inr (some 0))), some (.inl p1), some (.inl (([0, 100, 300, 600] : List Int).getD (v_h1).toNat 0)), some (.inl ((p1 / 2) % 3)), some (.inl l37_4), some (.inl l37_5), some (.inl l37_6), some (.inl l37_7), some (.inl l37_8), some (.inl v_h347), none, none]) (st' := [.inl 1, .inl l37_8, .inr (.inr (some 14))]) (w' := (SH, dt)) rfl ?_
        refine go_callq PM133 PM39 (Q' := _) rfl rfl rfl rfl (sp_X2_at_14 L xs sio (d + 0) dt hI  l37_8 (by first | exact bnd i293 (by decide) (by decide) | exact bndd i293 c332 (by decide) (by decide) | exact ⟨by fail, by fail⟩) 1 ⟨by decide, by decide⟩ ) ?_
        rintro _ _ ⟨rfl, h348⟩
        refine ⟨rfl, ?_⟩
        rcases h348 with ⟨v_h348, rfl, h348r, h348⟩
        have j351 :  GO (am_XX L xs sio) (d + 2) 133 103 [some (.inr (.inr (some 0))), some (.inl p1), some (.inl (([0, 100, 300, 600] : List Int).getD (v_h1).toNat 0)), some (.inl ((p1 / 2) % 3)), some (.inl l37_4), some (.inl l37_5), some (.inl l37_6), some (.inl l37_7), some (.inl l37_8), some (.inl v_h347), some (.inl v_h348), none] [.inl 1] (SH, dt) (fun r w2 => w2 = (SH, dt) ∧ ((r = some (.inl 1) ∧ True) ∨ (r = some (.inl 0) ∧ True))) := by
          skip
          have j363 : ∀ (j363_a4 : Int) (j363_a5 : Int) (j363_a6 : Int) (j363_a7 : Int) (i364 : 0 ≤ j363_a6 ∧ j363_a6 ≤ 41) (i365 : 0 ≤ j363_a7 ∧ j363_a7 ≤ 41) (i366 : l37_6 + 0 ≤ j363_a6 ∧ j363_a6 ≤ l37_6 + 1) (i367 : l37_7 + 0 ≤ j363_a7 ∧ j363_a7 ≤ l37_7 + 1), GO (am_XX L xs sio) (d + 2) 133 206 [some (.inr (.inr (some 0))), some (.inl p1), some (.inl (([0, 100, 300, 600] : List Int).getD (v_h1).toNat 0)), some (.inl ((p1 / 2) % 3)), some (.inl j363_a4), some (.inl j363_a5), some (.inl j363_a6), some (.inl j363_a7), some (.inl l37_8), none, none, none] [] (SH, dt) (fun r w2 => w2 = (SH, dt) ∧ ((r = some (.inl 1) ∧ True) ∨ (r = some (.inl 0) ∧ True))) := by
            intro j363_a4 j363_a5 j363_a6 j363_a7 i364 i365 i366 i367
            refine go_toq PM133 (k := 2) (pc' := 37) (L' := [some (.inr (.inr (some 0))), some (.inl p1), some (.inl (([0, 100, 300, 600] : List Int).getD (v_h1).toNat 0)), some (.inl ((p1 / 2) % 3)), some (.inl j363_a4), some (.inl j363_a5), some (.inl j363_a6), some (.inl j363_a7), some (.inl (l37_8 + 1)), none, none, none]) (st' := []) (w' := (SH, dt)) rfl ?_
            exact GO.le (ih_loop296 j363_a4 j363_a5 j363_a6 j363_a7 (l37_8 + 1) (by first | exact bnd i364 (by decide) (by decide) | omega) (by first | exact bnd i365 (by decide) (by decide) | omega) (by first | exact bndp i293 (by decide) (by decide) | exact bnde i293 c332 (by decide) (by decide) | omega) (by omega) (by omega) (by omega)) ⟨.inl rfl, .inl rfl, .inl rfl, .inl rfl, .inl rfl, .inl rfl, .inl rfl, .inl rfl, .inl rfl, .inl rfl, .inl rfl, .inl rfl, trivial⟩
          have r369 := wr_RR (v_h347 + v_h348)
          have r370 := wr_RR (([0, 100, 300, 600] : List Int).getD (v_h1).toNat 0)
          refine go_ifq PM133 (k := 5) (p1 := 206) (p2 := 114) (L' := [some (.inr (.inr (some 0))), some (.inl p1), some (.inl (([0, 100, 300, 600] : List Int).getD (v_h1).toNat 0)), some (.inl ((p1 / 2) % 3)), some (.inl l37_4), some (.inl l37_5), some (.inl l37_6), some (.inl l37_7), some (.inl l37_8), some (.inl v_h347), some (.inl v_h348), some (.inl 1)]) (st' := []) (w' := (SH, dt)) rfl (u_lt (a := wr (v_h347 + v_h348)) (b := wr (([0, 100, 300, 600] : List Int).getD (v_h1).toNat 0))) (fun c368 => ?_) (fun c368 => ?_)
          · skip
            exact GO.le (j363 l37_4 l37_5 l37_6 l37_7 (by first | exact bnd i291 (by decide) (by decide) | fail) (by first | exact bnd i292 (by decide) (by decide) | fail) (by omega) (by omega)) ⟨.inl rfl, .inl rfl, .inl rfl, .inl rfl, .inl rfl, .inl rfl, .inl rfl, .inl rfl, .inl rfl, .inr ⟨rfl, trivial⟩, .inr ⟨rfl, trivial⟩, .inr ⟨rfl, trivial⟩, trivial⟩
          · skip
            refine go_ifq PM133 (k := 2) (p1 := 127) (p2 := 119) (L' := [some (.inr (.inr (some 0))), some (.inl p1), some (.inl (([0, 100, 300, 600] : List Int).getD (v_h1).toNat 0)), some (.inl ((p1 / 2) % 3)), some (.inl l37_4), some (.inl l37_5), some (.inl l37_6), some (.inl l37_7), some (.inl l37_8), some (.inl v_h347), some (.inl v_h348), some (.inl 1)]) (st' := []) (w' := (SH, dt)) rfl (c_ne (a := (p1 / 2) % 3) (b := 2) ⟨by omega, by omega⟩ ⟨by decide, by decide⟩) (fun c371 => ?_) (fun c371 => ?_)
            · skip
              replace c371 := hid c371
              have j375 : ∀ (j375_a9 : Int) (j375_a10 : Int) (i376 : (-2147483648) ≤ j375_a9 ∧ j375_a9 ≤ 2147483647) (i377 : (-2147483648) ≤ j375_a10 ∧ j375_a10 ≤ 2147483647), GO (am_XX L xs sio) (d + 2) 133 152 [some (.inr (.inr (some 0))), some (.inl p1), some (.inl (([0, 100, 300, 600] : List Int).getD (v_h1).toNat 0)), some (.inl ((p1 / 2) % 3)), some (.inl l37_4), some (.inl l37_5), some (.inl l37_6), some (.inl l37_7), some (.inl l37_8), some (.inl j375_a9), some (.inl j375_a10), none] [] (SH, dt) (fun r w2 => w2 = (SH, dt) ∧ ((r = some (.inl 1) ∧ True) ∨ (r = some (.inl 0) ∧ True))) := by
                intro j375_a9 j375_a10 i376 i377
                refine go_ifq PM133 (k := 15) (p1 := 185) (p2 := 181) (L' := [some (.inr (.inr (some 0))), some (.inl p1), some (.inl (([0, 100, 300, 600] : List Int).getD (v_h1).toNat 0)), some (.inl ((p1 / 2) % 3)), some (.inl (l37_4 + (j375_a10 - j375_a9))), some (.inl (l37_5 + (j375_a10 + j375_a9))), some (.inl l37_6), some (.inl l37_7), some (.inl l37_8), some (.inl j375_a9), some (.inl j375_a10), none]) (st' := [.inl l37_6]) (w' := (SH, dt)) rfl (c_eq (a := j375_a10) (b := j375_a9) (by first | exact bnd i377 (by decide) (by decide) | exact ⟨by fail, by fail⟩) (by first | exact bnd i376 (by decide) (by decide) | exact ⟨by fail, by fail⟩)) (fun c379 => ?_) (fun c379 => ?_)
                · skip
                  refine go_ifq PM133 (k := 6) (p1 := 202) (p2 := 198) (L' := [some (.inr (.inr (some 0))), some (.inl p1), some (.inl (([0, 100, 300, 600] : List Int).getD (v_h1).toNat 0)), some (.inl ((p1 / 2) % 3)), some (.inl (l37_4 + (j375_a10 - j375_a9))), some (.inl (l37_5 + (j375_a10 + j375_a9))), some (.inl (l37_6 + 0)), some (.inl l37_7), some (.inl l37_8), some (.inl j375_a9), some (.inl j375_a10), none]) (st' := [.inl l37_7]) (w' := (SH, dt)) rfl (c_le (a := j375_a10) (b := j375_a9) (by first | exact bnd i377 (by decide) (by decide) | exact ⟨by fail, by fail⟩) (by first | exact bnd i376 (by decide) (by decide) | exact ⟨by fail, by fail⟩)) (fun c381 => ?_) (fun c381 => ?_)
                  · skip
                    refine go_toq PM133 (k := 3) (pc' := 206) (L' := [some (.inr (.inr (some 0))), some (.inl p1), some (.inl (([0, 100, 300, 600] : List Int).getD (v_h1).toNat 0)), some (.inl ((p1 / 2) % 3)), some (.inl (l37_4 + (j375_a10 - j375_a9))), some (.inl (l37_5 + (j375_a10 + j375_a9))), some (.inl (l37_6 + 0)), some (.inl (l37_7 + 0)), some (.inl l37_8), some (.inl j375_a9), some (.inl j375_a10), none]) (st' := []) (w' := (SH, dt)) rfl ?_
                    exact GO.le (j363 (l37_4 + (j375_a10 - j375_a9)) (l37_5 + (j375_a10 + j375_a9)) (l37_6 + 0) (l37_7 + 0) (by first | exact bndp i291 (by decide) (by decide) | fail) (by first | exact bndp i292 (by decide) (by decide) | fail) (by omega) (by omega)) ⟨.inl rfl, .inl rfl, .inl rfl, .inl rfl, .inl rfl, .inl rfl, .inl rfl, .inl rfl, .inl rfl, .inr ⟨rfl, trivial⟩, .inr ⟨rfl, trivial⟩, .inl rfl, trivial⟩
                  · skip
                    refine go_toq PM133 (k := 4) (pc' := 206) (L' := [some (.inr (.inr (some 0))), some (.inl p1), some (.inl (([0, 100, 300, 600] : List Int).getD (v_h1).toNat 0)), some (.inl ((p1 / 2) % 3)), some (.inl (l37_4 + (j375_a10 - j375_a9))), some (.inl (l37_5 + (j375_a10 + j375_a9))), some (.inl (l37_6 + 0)), some (.inl (l37_7 + 1)), some (.inl l37_8), some (.inl j375_a9), some (.inl j375_a10), none]) (st' := []) (w' := (SH, dt)) rfl ?_
                    exact GO.le (j363 (l37_4 + (j375_a10 - j375_a9)) (l37_5 + (j375_a10 + j375_a9)) (l37_6 + 0) (l37_7 + 1) (by first | exact bndp i291 (by decide) (by decide) | fail) (by first | exact bndp i292 (by decide) (by decide) | fail) (by omega) (by omega)) ⟨.inl rfl, .inl rfl, .inl rfl, .inl rfl, .inl rfl, .inl rfl, .inl rfl, .inl rfl, .inl rfl, .inr ⟨rfl, trivial⟩, .inr ⟨rfl, trivial⟩, .inl rfl, trivial⟩
                · skip
                  replace c379 := hid c379
                  refine go_ifq PM133 (k := 7) (p1 := 202) (p2 := 198) (L' := [some (.inr (.inr (some 0))), some (.inl p1), some (.inl (([0, 100, 300, 600] : List Int).getD (v_h1).toNat 0)), some (.inl ((p1 / 2) % 3)), some (.inl (l37_4 + (j375_a10 - j375_a9))), some (.inl (l37_5 + (j375_a10 + j375_a9))), some (.inl (l37_6 + 1)), some (.inl l37_7), some (.inl l37_8), some (.inl j375_a9), some (.inl j375_a10), none]) (st' := [.inl l37_7]) (w' := (SH, dt)) rfl (c_le (a := j375_a10) (b := j375_a9) (by first | exact bnd i377 (by decide) (by decide) | exact ⟨by fail, by fail⟩) (by first | exact bnd i376 (by decide) (by decide) | exact ⟨by fail, by fail⟩)) (fun c383 => ?_) (fun c383 => ?_)
                  · skip
                    refine go_toq PM133 (k := 3) (pc' := 206) (L' := [some (.inr (.inr (some 0))), some (.inl p1), some (.inl (([0, 100, 300, 600] : List Int).getD (v_h1).toNat 0)), some (.inl ((p1 / 2) % 3)), some (.inl (l37_4 + (j375_a10 - j375_a9))), some (.inl (l37_5 + (j375_a10 + j375_a9))), some (.inl (l37_6 + 1)), some (.inl (l37_7 + 0)), some (.inl l37_8), some (.inl j375_a9), some (.inl j375_a10), none]) (st' := []) (w' := (SH, dt)) rfl ?_
                    exact GO.le (j363 (l37_4 + (j375_a10 - j375_a9)) (l37_5 + (j375_a10 + j375_a9)) (l37_6 + 1) (l37_7 + 0) (by first | exact bndp i291 (by decide) (by decide) | fail) (by first | exact bndp i292 (by decide) (by decide) | fail) (by omega) (by omega)) ⟨.inl rfl, .inl rfl, .inl rfl, .inl rfl, .inl rfl, .inl rfl, .inl rfl, .inl rfl, .inl rfl, .inr ⟨rfl, trivial⟩, .inr ⟨rfl, trivial⟩, .inl rfl, trivial⟩
                  · skip
                    refine go_toq PM133 (k := 4) (pc' := 206) (L' := [some (.inr (.inr (some 0))), some (.inl p1), some (.inl (([0, 100, 300, 600] : List Int).getD (v_h1).toNat 0)), some (.inl ((p1 / 2) % 3)), some (.inl (l37_4 + (j375_a10 - j375_a9))), some (.inl (l37_5 + (j375_a10 + j375_a9))), some (.inl (l37_6 + 1)), some (.inl (l37_7 + 1)), some (.inl l37_8), some (.inl j375_a9), some (.inl j375_a10), none]) (st' := []) (w' := (SH, dt)) rfl ?_
                    exact GO.le (j363 (l37_4 + (j375_a10 - j375_a9)) (l37_5 + (j375_a10 + j375_a9)) (l37_6 + 1) (l37_7 + 1) (by first | exact bndp i291 (by decide) (by decide) | fail) (by first | exact bndp i292 (by decide) (by decide) | fail) (by omega) (by omega)) ⟨.inl rfl, .inl rfl, .inl rfl, .inl rfl, .inl rfl, .inl rfl, .inl rfl, .inl rfl, .inl rfl, .inr ⟨rfl, trivial⟩, .inr ⟨rfl, trivial⟩, .inl rfl, trivial⟩
              refine go_ifq PM133 (k := 2) (p1 := 152) (p2 := 132) (L' := [some (.inr (.inr (some 0))), some (.inl p1), some (.inl (([0, 100, 300, 600] : List Int).getD (v_h1).toNat 0)), some (.inl ((p1 / 2) % 3)), some (.inl l37_4), some (.inl l37_5), some (.inl l37_6), some (.inl l37_7), some (.inl l37_8), some (.inl v_h347), some (.inl v_h348), some (.inl 1)]) (st' := []) (w' := (SH, dt)) rfl (c_ne (a := (p1 / 2) % 3) (b := 1) ⟨by omega, by omega⟩ ⟨by decide, by decide⟩) (fun c384 => ?_) (fun c384 => ?_)
              · skip
                replace c384 := hid c384
                exact GO.le (j375 v_h347 v_h348 (by first | exact bnd h347r (by decide) (by decide) | fail) (by first | exact bnd h348r (by decide) (by decide) | fail)) ⟨.inl rfl, .inl rfl, .inl rfl, .inl rfl, .inl rfl, .inl rfl, .inl rfl, .inl rfl, .inl rfl, .inl rfl, .inl rfl, .inr ⟨rfl, trivial⟩, trivial⟩
              · skip
                refine go_toq PM133 (k := 2) (pc' := 137) (L' := [some (.inr (.inr (some 0))), some (.inl p1), some (.inl (([0, 100, 300, 600] : List Int).getD (v_h1).toNat 0)), some (.inl ((p1 / 2) % 3)), some (.inl l37_4), some (.inl l37_5), some (.inl l37_6), some (.inl l37_7), some (.inl l37_8), some (.inl v_h347), some (.inl v_h348), some (.inl 1)]) (st' := [.inl 3000, .inl v_h347]) (w' := (SH, dt)) rfl ?_
                refine go_callq PM133 PM266 (Q' := _) rfl rfl rfl rfl (sp_J9_min_7cf53 L xs sio (d + 1) dt hI  v_h347 (by first | exact bnd h347r (by decide) (by decide) | exact ⟨by fail, by fail⟩) 3000 ⟨by decide, by decide⟩ ) ?_
                rintro _ _ ⟨rfl, h385⟩
                refine ⟨rfl, ?_⟩
                rcases h385 with ⟨v_h385, rfl, h385r, h385⟩
                refine go_toq PM133 (k := 3) (pc' := 147) (L' := [some (.inr (.inr (some 0))), some (.inl p1), some (.inl (([0, 100, 300, 600] : List Int).getD (v_h1).toNat 0)), some (.inl ((p1 / 2) % 3)), some (.inl l37_4), some (.inl l37_5), some (.inl l37_6), some (.inl l37_7), some (.inl l37_8), some (.inl v_h385), some (.inl v_h348), some (.inl 1)]) (st' := [.inl 3000, .inl v_h348]) (w' := (SH, dt)) rfl ?_
                refine go_callq PM133 PM266 (Q' := _) rfl rfl rfl rfl (sp_J9_min_7cf53 L xs sio (d + 1) dt hI  v_h348 (by first | exact bnd h348r (by decide) (by decide) | exact ⟨by fail, by fail⟩) 3000 ⟨by decide, by decide⟩ ) ?_
                rintro _ _ ⟨rfl, h386⟩
                refine ⟨rfl, ?_⟩
                rcases h386 with ⟨v_h386, rfl, h386r, h386⟩
                refine go_toq PM133 (k := 1) (pc' := 152) (L' := [some (.inr (.inr (some 0))), some (.inl p1), some (.inl (([0, 100, 300, 600] : List Int).getD (v_h1).toNat 0)), some (.inl ((p1 / 2) % 3)), some (.inl l37_4), some (.inl l37_5), some (.inl l37_6), some (.inl l37_7), some (.inl l37_8), some (.inl v_h385), some (.inl v_h386), some (.inl 1)]) (st' := []) (w' := (SH, dt)) rfl ?_
                exact GO.le (j375 v_h385 v_h386 (by first | exact bnd h385r (by decide) (by decide) | fail) (by first | exact bnd h386r (by decide) (by decide) | fail)) ⟨.inl rfl, .inl rfl, .inl rfl, .inl rfl, .inl rfl, .inl rfl, .inl rfl, .inl rfl, .inl rfl, .inl rfl, .inl rfl, .inr ⟨rfl, trivial⟩, trivial⟩
            · skip
              refine go_toq PM133 (k := 3) (pc' := 206) (L' := [some (.inr (.inr (some 0))), some (.inl p1), some (.inl (([0, 100, 300, 600] : List Int).getD (v_h1).toNat 0)), some (.inl ((p1 / 2) % 3)), some (.inl l37_4), some (.inl l37_5), some (.inl l37_6), some (.inl l37_7), some (.inl l37_8), some (.inl v_h347), some (.inl v_h348), some (.inl 1)]) (st' := []) (w' := (SH, dt)) rfl ?_
              exact GO.le (j363 l37_4 l37_5 l37_6 l37_7 (by first | exact bnd i291 (by decide) (by decide) | fail) (by first | exact bnd i292 (by decide) (by decide) | fail) (by omega) (by omega)) ⟨.inl rfl, .inl rfl, .inl rfl, .inl rfl, .inl rfl, .inl rfl, .inl rfl, .inl rfl, .inl rfl, .inr ⟨rfl, trivial⟩, .inr ⟨rfl, trivial⟩, .inr ⟨rfl, trivial⟩, trivial⟩
        refine go_ifq PM133 (k := 3) (p1 := 98) (p2 := 90) (L' := [some (.inr (.inr (some 0))), some (.inl p1), some (.inl (([0, 100, 300, 600] : List Int).getD (v_h1).toNat 0)), some (.inl ((p1 / 2) % 3)), some (.inl l37_4), some (.inl l37_5), some (.inl l37_6), some (.inl l37_7), some (.inl l37_8), some (.inl v_h347), some (.inl v_h348), none]) (st' := []) (w' := (SH, dt)) rfl (c_gt (a := v_h347) (b := 3000) (by first | exact bnd h347r (by decide) (by decide) | exact ⟨by fail, by fail⟩) ⟨by decide, by decide⟩) (fun c387 => ?_) (fun c387 => ?_)
        · skip
          refine go_toq PM133 (k := 2) (pc' := 103) (L' := [some (.inr (.inr (some 0))), some (.inl p1), some (.inl (([0, 100, 300, 600] : List Int).getD (v_h1).toNat 0)), some (.inl ((p1 / 2) % 3)), some (.inl l37_4), some (.inl l37_5), some (.inl l37_6), some (.inl l37_7), some (.inl l37_8), some (.inl v_h347), some (.inl v_h348), none]) (st' := [.inl 1]) (w' := (SH, dt)) rfl ?_
          exact GO.le (j351 ) ⟨.inl rfl, .inl rfl, .inl rfl, .inl rfl, .inl rfl, .inl rfl, .inl rfl, .inl rfl, .inl rfl, .inl rfl, .inl rfl, .inl rfl, trivial⟩
        · skip
          refine go_ifq PM133 (k := 2) (p1 := 102) (p2 := 98) (L' := [some (.inr (.inr (some 0))), some (.inl p1), some (.inl (([0, 100, 300, 600] : List Int).getD (v_h1).toNat 0)), some (.inl ((p1 / 2) % 3)), some (.inl l37_4), some (.inl l37_5), some (.inl l37_6), some (.inl l37_7), some (.inl l37_8), some (.inl v_h347), some (.inl v_h348), none]) (st' := []) (w' := (SH, dt)) rfl (c_le (a := v_h348) (b := 3000) (by first | exact bnd h348r (by decide) (by decide) | exact ⟨by fail, by fail⟩) ⟨by decide, by decide⟩) (fun c388 => ?_) (fun c388 => ?_)
          · skip
            have j404 : ∀ (j404_a4 : Int) (j404_a5 : Int) (j404_a6 : Int) (j404_a7 : Int) (i405 : 0 ≤ j404_a6 ∧ j404_a6 ≤ 41) (i406 : 0 ≤ j404_a7 ∧ j404_a7 ≤ 41) (i407 : l37_6 + 0 ≤ j404_a6 ∧ j404_a6 ≤ l37_6 + 1) (i408 : l37_7 + 0 ≤ j404_a7 ∧ j404_a7 ≤ l37_7 + 1), GO (am_XX L xs sio) (d + 2) 133 206 [some (.inr (.inr (some 0))), some (.inl p1), some (.inl (([0, 100, 300, 600] : List Int).getD (v_h1).toNat 0)), some (.inl ((p1 / 2) % 3)), some (.inl j404_a4), some (.inl j404_a5), some (.inl j404_a6), some (.inl j404_a7), some (.inl l37_8), none, none, none] [] (SH, dt) (fun r w2 => w2 = (SH, dt) ∧ ((r = some (.inl 1) ∧ True) ∨ (r = some (.inl 0) ∧ True))) := by
              intro j404_a4 j404_a5 j404_a6 j404_a7 i405 i406 i407 i408
              refine go_toq PM133 (k := 2) (pc' := 37) (L' := [some (.inr (.inr (some 0))), some (.inl p1), some (.inl (([0, 100, 300, 600] : List Int).getD (v_h1).toNat 0)), some (.inl ((p1 / 2) % 3)), some (.inl j404_a4), some (.inl j404_a5), some (.inl j404_a6), some (.inl j404_a7), some (.inl (l37_8 + 1)), none, none, none]) (st' := []) (w' := (SH, dt)) rfl ?_
              exact GO.le (ih_loop296 j404_a4 j404_a5 j404_a6 j404_a7 (l37_8 + 1) (by first | exact bnd i405 (by decide) (by decide) | omega) (by first | exact bnd i406 (by decide) (by decide) | omega) (by first | exact bndp i293 (by decide) (by decide) | exact bnde i293 c332 (by decide) (by decide) | omega) (by omega) (by omega) (by omega)) ⟨.inl rfl, .inl rfl, .inl rfl, .inl rfl, .inl rfl, .inl rfl, .inl rfl, .inl rfl, .inl rfl, .inl rfl, .inl rfl, .inl rfl, trivial⟩
            have r410 := wr_RR (v_h347 + v_h348)
            have r411 := wr_RR (([0, 100, 300, 600] : List Int).getD (v_h1).toNat 0)
            refine go_ifq PM133 (k := 6) (p1 := 206) (p2 := 114) (L' := [some (.inr (.inr (some 0))), some (.inl p1), some (.inl (([0, 100, 300, 600] : List Int).getD (v_h1).toNat 0)), some (.inl ((p1 / 2) % 3)), some (.inl l37_4), some (.inl l37_5), some (.inl l37_6), some (.inl l37_7), some (.inl l37_8), some (.inl v_h347), some (.inl v_h348), some (.inl 0)]) (st' := []) (w' := (SH, dt)) rfl (u_lt (a := wr (v_h347 + v_h348)) (b := wr (([0, 100, 300, 600] : List Int).getD (v_h1).toNat 0))) (fun c409 => ?_) (fun c409 => ?_)
            · skip
              exact GO.le (j404 l37_4 l37_5 l37_6 l37_7 (by first | exact bnd i291 (by decide) (by decide) | fail) (by first | exact bnd i292 (by decide) (by decide) | fail) (by omega) (by omega)) ⟨.inl rfl, .inl rfl, .inl rfl, .inl rfl, .inl rfl, .inl rfl, .inl rfl, .inl rfl, .inl rfl, .inr ⟨rfl, trivial⟩, .inr ⟨rfl, trivial⟩, .inr ⟨rfl, trivial⟩, trivial⟩
            · skip
              refine go_ifq PM133 (k := 2) (p1 := 127) (p2 := 119) (L' := [some (.inr (.inr (some 0))), some (.inl p1), some (.inl (([0, 100, 300, 600] : List Int).getD (v_h1).toNat 0)), some (.inl ((p1 / 2) % 3)), some (.inl l37_4), some (.inl l37_5), some (.inl l37_6), some (.inl l37_7), some (.inl l37_8), some (.inl v_h347), some (.inl v_h348), some (.inl 0)]) (st' := []) (w' := (SH, dt)) rfl (c_ne (a := (p1 / 2) % 3) (b := 2) ⟨by omega, by omega⟩ ⟨by decide, by decide⟩) (fun c412 => ?_) (fun c412 => ?_)
              · skip
                replace c412 := hid c412
                have j416 : ∀ (j416_a9 : Int) (j416_a10 : Int) (i417 : (-2147483648) ≤ j416_a9 ∧ j416_a9 ≤ 3000) (i418 : (-2147483648) ≤ j416_a10 ∧ j416_a10 ≤ 3000), GO (am_XX L xs sio) (d + 2) 133 152 [some (.inr (.inr (some 0))), some (.inl p1), some (.inl (([0, 100, 300, 600] : List Int).getD (v_h1).toNat 0)), some (.inl ((p1 / 2) % 3)), some (.inl l37_4), some (.inl l37_5), some (.inl l37_6), some (.inl l37_7), some (.inl l37_8), some (.inl j416_a9), some (.inl j416_a10), none] [] (SH, dt) (fun r w2 => w2 = (SH, dt) ∧ ((r = some (.inl 1) ∧ True) ∨ (r = some (.inl 0) ∧ True))) := by
                  intro j416_a9 j416_a10 i417 i418
                  refine go_ifq PM133 (k := 15) (p1 := 185) (p2 := 181) (L' := [some (.inr (.inr (some 0))), some (.inl p1), some (.inl (([0, 100, 300, 600] : List Int).getD (v_h1).toNat 0)), some (.inl ((p1 / 2) % 3)), some (.inl (l37_4 + (j416_a10 - j416_a9))), some (.inl (l37_5 + (j416_a10 + j416_a9))), some (.inl l37_6), some (.inl l37_7), some (.inl l37_8), some (.inl j416_a9), some (.inl j416_a10), none]) (st' := [.inl l37_6]) (w' := (SH, dt)) rfl (c_eq (a := j416_a10) (b := j416_a9) (by first | exact bnd i418 (by decide) (by decide) | exact ⟨by fail, by fail⟩) (by first | exact bnd i417 (by decide) (by decide) | exact ⟨by fail, by fail⟩)) (fun c420 => ?_) (fun c420 => ?_)
                  · skip
                    refine go_ifq PM133 (k := 6) (p1 := 202) (p2 := 198) (L' := [some (.inr (.inr (some 0))), some (.inl p1), some (.inl (([0, 100, 300, 600] : List Int).getD (v_h1).toNat 0)), some (.inl ((p1 / 2) % 3)), some (.inl (l37_4 + (j416_a10 - j416_a9))), some (.inl (l37_5 + (j416_a10 + j416_a9))), some (.inl (l37_6 + 0)), some (.inl l37_7), some (.inl l37_8), some (.inl j416_a9), some (.inl j416_a10), none]) (st' := [.inl l37_7]) (w' := (SH, dt)) rfl (c_le (a := j416_a10) (b := j416_a9) (by first | exact bnd i418 (by decide) (by decide) | exact ⟨by fail, by fail⟩) (by first | exact bnd i417 (by decide) (by decide) | exact ⟨by fail, by fail⟩)) (fun c422 => ?_) (fun c422 => ?_)
                    · skip
                      refine go_toq PM133 (k := 3) (pc' := 206) (L' := [some (.inr (.inr (some 0))), some (.inl p1), some (.inl (([0, 100, 300, 600] : List Int).getD (v_h1).toNat 0)), some (.inl ((p1 / 2) % 3)), some (.inl (l37_4 + (j416_a10 - j416_a9))), some (.inl (l37_5 + (j416_a10 + j416_a9))), some (.inl (l37_6 + 0)), some (.inl (l37_7 + 0)), some (.inl l37_8), some (.inl j416_a9), some (.inl j416_a10), none]) (st' := []) (w' := (SH, dt)) rfl ?_
                      exact GO.le (j404 (l37_4 + (j416_a10 - j416_a9)) (l37_5 + (j416_a10 + j416_a9)) (l37_6 + 0) (l37_7 + 0) (by first | exact bndp i291 (by decide) (by decide) | fail) (by first | exact bndp i292 (by decide) (by decide) | fail) (by omega) (by omega)) ⟨.inl rfl, .inl rfl, .inl rfl, .inl rfl, .inl rfl, .inl rfl, .inl rfl, .inl rfl, .inl rfl, .inr ⟨rfl, trivial⟩, .inr ⟨rfl, trivial⟩, .inl rfl, trivial⟩
                    · skip
                      refine go_toq PM133 (k := 4) (pc' := 206) (L' := [some (.inr (.inr (some 0))), some (.inl p1), some (.inl (([0, 100, 300, 600] : List Int).getD (v_h1).toNat 0)), some (.inl ((p1 / 2) % 3)), some (.inl (l37_4 + (j416_a10 - j416_a9))), some (.inl (l37_5 + (j416_a10 + j416_a9))), some (.inl (l37_6 + 0)), some (.inl (l37_7 + 1)), some (.inl l37_8), some (.inl j416_a9), some (.inl j416_a10), none]) (st' := []) (w' := (SH, dt)) rfl ?_
                      exact GO.le (j404 (l37_4 + (j416_a10 - j416_a9)) (l37_5 + (j416_a10 + j416_a9)) (l37_6 + 0) (l37_7 + 1) (by first | exact bndp i291 (by decide) (by decide) | fail) (by first | exact bndp i292 (by decide) (by decide) | fail) (by omega) (by omega)) ⟨.inl rfl, .inl rfl, .inl rfl, .inl rfl, .inl rfl, .inl rfl, .inl rfl, .inl rfl, .inl rfl, .inr ⟨rfl, trivial⟩, .inr ⟨rfl, trivial⟩, .inl rfl, trivial⟩
                  · skip
                    replace c420 := hid c420
                    refine go_ifq PM133 (k := 7) (p1 := 202) (p2 := 198) (L' := [some (.inr (.inr (some 0))), some (.inl p1), some (.inl (([0, 100, 300, 600] : List Int).getD (v_h1).toNat 0)), some (.inl ((p1 / 2) % 3)), some (.inl (l37_4 + (j416_a10 - j416_a9))), some (.inl (l37_5 + (j416_a10 + j416_a9))), some (.inl (l37_6 + 1)), some (.inl l37_7), some (.inl l37_8), some (.inl j416_a9), some (.inl j416_a10), none]) (st' := [.inl l37_7]) (w' := (SH, dt)) rfl (c_le (a := j416_a10) (b := j416_a9) (by first | exact bnd i418 (by decide) (by decide) | exact ⟨by fail, by fail⟩) (by first | exact bnd i417 (by decide) (by decide) | exact ⟨by fail, by fail⟩)) (fun c424 => ?_) (fun c424 => ?_)
                    · skip
                      refine go_toq PM133 (k := 3) (pc' := 206) (L' := [some (.inr (.inr (some 0))), some (.inl p1), some (.inl (([0, 100, 300, 600] : List Int).getD (v_h1).toNat 0)), some (.inl ((p1 / 2) % 3)), some (.inl (l37_4 + (j416_a10 - j416_a9))), some (.inl (l37_5 + (j416_a10 + j416_a9))), some (.inl (l37_6 + 1)), some (.inl (l37_7 + 0)), some (.inl l37_8), some (.inl j416_a9), some (.inl j416_a10), none]) (st' := []) (w' := (SH, dt)) rfl ?_
                      exact GO.le (j404 (l37_4 + (j416_a10 - j416_a9)) (l37_5 + (j416_a10 + j416_a9)) (l37_6 + 1) (l37_7 + 0) (by first | exact bndp i291 (by decide) (by decide) | fail) (by first | exact bndp i292 (by decide) (by decide) | fail) (by omega) (by omega)) ⟨.inl rfl, .inl rfl, .inl rfl, .inl rfl, .inl rfl, .inl rfl, .inl rfl, .inl rfl, .inl rfl, .inr ⟨rfl, trivial⟩, .inr ⟨rfl, trivial⟩, .inl rfl, trivial⟩
                    · skip
                      refine go_toq PM133 (k := 4) (pc' := 206) (L' := [some (.inr (.inr (some 0))), some (.inl p1), some (.inl (([0, 100, 300, 600] : List Int).getD (v_h1).toNat 0)), some (.inl ((p1 / 2) % 3)), some (.inl (l37_4 + (j416_a10 - j416_a9))), some (.inl (l37_5 + (j416_a10 + j416_a9))), some (.inl (l37_6 + 1)), some (.inl (l37_7 + 1)), some (.inl l37_8), some (.inl j416_a9), some (.inl j416_a10), none]) (st' := []) (w' := (SH, dt)) rfl ?_
                      exact GO.le (j404 (l37_4 + (j416_a10 - j416_a9)) (l37_5 + (j416_a10 + j416_a9)) (l37_6 + 1) (l37_7 + 1) (by first | exact bndp i291 (by decide) (by decide) | fail) (by first | exact bndp i292 (by decide) (by decide) | fail) (by omega) (by omega)) ⟨.inl rfl, .inl rfl, .inl rfl, .inl rfl, .inl rfl, .inl rfl, .inl rfl, .inl rfl, .inl rfl, .inr ⟨rfl, trivial⟩, .inr ⟨rfl, trivial⟩, .inl rfl, trivial⟩
                refine go_ifq PM133 (k := 2) (p1 := 152) (p2 := 132) (L' := [some (.inr (.inr (some 0))), some (.inl p1), some (.inl (([0, 100, 300, 600] : List Int).getD (v_h1).toNat 0)), some (.inl ((p1 / 2) % 3)), some (.inl l37_4), some (.inl l37_5), some (.inl l37_6), some (.inl l37_7), some (.inl l37_8), some (.inl v_h347), some (.inl v_h348), some (.inl 0)]) (st' := []) (w' := (SH, dt)) rfl (c_ne (a := (p1 / 2) % 3) (b := 1) ⟨by omega, by omega⟩ ⟨by decide, by decide⟩) (fun c425 => ?_) (fun c425 => ?_)
                · skip
                  replace c425 := hid c425
                  exact GO.le (j416 v_h347 v_h348 (by first | exact bnd h347r (by decide) (by decide) | omega) (by first | exact bnd h348r (by decide) (by decide) | omega)) ⟨.inl rfl, .inl rfl, .inl rfl, .inl rfl, .inl rfl, .inl rfl, .inl rfl, .inl rfl, .inl rfl, .inl rfl, .inl rfl, .inr ⟨rfl, trivial⟩, trivial⟩
                · skip
                  refine go_toq PM133 (k := 2) (pc' := 137) (L' := [some (.inr (.inr (some 0))), some (.inl p1), some (.inl (([0, 100, 300, 600] : List Int).getD (v_h1).toNat 0)), some (.inl ((p1 / 2) % 3)), some (.inl l37_4), some (.inl l37_5), some (.inl l37_6), some (.inl l37_7), some (.inl l37_8), some (.inl v_h347), some (.inl v_h348), some (.inl 0)]) (st' := [.inl 3000, .inl v_h347]) (w' := (SH, dt)) rfl ?_
                  refine go_callq PM133 PM266 (Q' := _) rfl rfl rfl rfl (sp_J9_min_7cf53 L xs sio (d + 1) dt hI  v_h347 (by first | exact bnd h347r (by decide) (by decide) | exact ⟨by fail, by fail⟩) 3000 ⟨by decide, by decide⟩ ) ?_
                  rintro _ _ ⟨rfl, h426⟩
                  refine ⟨rfl, ?_⟩
                  rcases h426 with ⟨v_h426, rfl, h426r, h426⟩
                  refine go_toq PM133 (k := 3) (pc' := 147) (L' := [some (.inr (.inr (some 0))), some (.inl p1), some (.inl (([0, 100, 300, 600] : List Int).getD (v_h1).toNat 0)), some (.inl ((p1 / 2) % 3)), some (.inl l37_4), some (.inl l37_5), some (.inl l37_6), some (.inl l37_7), some (.inl l37_8), some (.inl v_h426), some (.inl v_h348), some (.inl 0)]) (st' := [.inl 3000, .inl v_h348]) (w' := (SH, dt)) rfl ?_
                  refine go_callq PM133 PM266 (Q' := _) rfl rfl rfl rfl (sp_J9_min_7cf53 L xs sio (d + 1) dt hI  v_h348 (by first | exact bnd h348r (by decide) (by decide) | exact ⟨by fail, by fail⟩) 3000 ⟨by decide, by decide⟩ ) ?_
                  rintro _ _ ⟨rfl, h427⟩
                  refine ⟨rfl, ?_⟩
                  rcases h427 with ⟨v_h427, rfl, h427r, h427⟩
                  refine go_toq PM133 (k := 1) (pc' := 152) (L' := [some (.inr (.inr (some 0))), some (.inl p1), some (.inl (([0, 100, 300, 600] : List Int).getD (v_h1).toNat 0)), some (.inl ((p1 / 2) % 3)), some (.inl l37_4), some (.inl l37_5), some (.inl l37_6), some (.inl l37_7), some (.inl l37_8), some (.inl v_h426), some (.inl v_h427), some (.inl 0)]) (st' := []) (w' := (SH, dt)) rfl ?_
                  exact GO.le (j416 v_h426 v_h427 (by first | exact bnd h426r (by decide) (by decide) | omega) (by first | exact bnd h427r (by decide) (by decide) | omega)) ⟨.inl rfl, .inl rfl, .inl rfl, .inl rfl, .inl rfl, .inl rfl, .inl rfl, .inl rfl, .inl rfl, .inl rfl, .inl rfl, .inr ⟨rfl, trivial⟩, trivial⟩
              · skip
                refine go_ifq PM133 (k := 4) (p1 := 152) (p2 := 132) (L' := [some (.inr (.inr (some 0))), some (.inl p1), some (.inl (([0, 100, 300, 600] : List Int).getD (v_h1).toNat 0)), some (.inl ((p1 / 2) % 3)), some (.inl l37_4), some (.inl l37_5), some (.inl l37_6), some (.inl l37_7), some (.inl l37_8), some (.inl v_h347), some (.inl v_h348), some (.inl 0)]) (st' := []) (w' := (SH, dt)) rfl (c_ne (a := (p1 / 2) % 3) (b := 1) ⟨by omega, by omega⟩ ⟨by decide, by decide⟩) (fun c429 => ?_) (fun c429 => ?_)
                · skip
                  replace c429 := hid c429
                  refine go_ifq PM133 (k := 15) (p1 := 185) (p2 := 181) (L' := [some (.inr (.inr (some 0))), some (.inl p1), some (.inl (([0, 100, 300, 600] : List Int).getD (v_h1).toNat 0)), some (.inl ((p1 / 2) % 3)), some (.inl (l37_4 + (v_h348 - v_h347))), some (.inl (l37_5 + (v_h348 + v_h347))), some (.inl l37_6), some (.inl l37_7), some (.inl l37_8), some (.inl v_h347), some (.inl v_h348), some (.inl 0)]) (st' := [.inl l37_6]) (w' := (SH, dt)) rfl (c_eq (a := v_h348) (b := v_h347) (by first | exact bnd h348r (by decide) (by decide) | exact ⟨by fail, by fail⟩) (by first | exact bnd h347r (by decide) (by decide) | exact ⟨by fail, by fail⟩)) (fun c431 => ?_) (fun c431 => ?_)
                  · skip
                    refine go_ifq PM133 (k := 6) (p1 := 202) (p2 := 198) (L' := [some (.inr (.inr (some 0))), some (.inl p1), some (.inl (([0, 100, 300, 600] : List Int).getD (v_h1).toNat 0)), some (.inl ((p1 / 2) % 3)), some (.inl (l37_4 + (v_h348 - v_h347))), some (.inl (l37_5 + (v_h348 + v_h347))), some (.inl (l37_6 + 0)), some (.inl l37_7), some (.inl l37_8), some (.inl v_h347), some (.inl v_h348), some (.inl 0)]) (st' := [.inl l37_7]) (w' := (SH, dt)) rfl (c_le (a := v_h348) (b := v_h347) (by first | exact bnd h348r (by decide) (by decide) | exact ⟨by fail, by fail⟩) (by first | exact bnd h347r (by decide) (by decide) | exact ⟨by fail, by fail⟩)) (fun c433 => ?_) (fun c433 => ?_)
                    · skip
                      refine go_toq PM133 (k := 3) (pc' := 206) (L' := [some (.inr (.inr (some 0))), some (.inl p1), some (.inl (([0, 100, 300, 600] : List Int).getD (v_h1).toNat 0)), some (.inl ((p1 / 2) % 3)), some (.inl (l37_4 + (v_h348 - v_h347))), some (.inl (l37_5 + (v_h348 + v_h347))), some (.inl (l37_6 + 0)), some (.inl (l37_7 + 0)), some (.inl l37_8), some (.inl v_h347), some (.inl v_h348), some (.inl 0)]) (st' := []) (w' := (SH, dt)) rfl ?_
                      exact GO.le (j404 (l37_4 + (v_h348 - v_h347)) (l37_5 + (v_h348 + v_h347)) (l37_6 + 0) (l37_7 + 0) (by first | exact bndp i291 (by decide) (by decide) | fail) (by first | exact bndp i292 (by decide) (by decide) | fail) (by omega) (by omega)) ⟨.inl rfl, .inl rfl, .inl rfl, .inl rfl, .inl rfl, .inl rfl, .inl rfl, .inl rfl, .inl rfl, .inr ⟨rfl, trivial⟩, .inr ⟨rfl, trivial⟩, .inr ⟨rfl, trivial⟩, trivial⟩
                    · skip
                      refine go_toq PM133 (k := 4) (pc' := 206) (L' := [some (.inr (.inr (some 0))), some (.inl p1), some (.inl (([0, 100, 300, 600] : List Int).getD (v_h1).toNat 0)), some (.inl ((p1 / 2) % 3)), some (.inl (l37_4 + (v_h348 - v_h347))), some (.inl (l37_5 + (v_h348 + v_h347))), some (.inl (l37_6 + 0)), some (.inl (l37_7 + 1)), some (.inl l37_8), some (.inl v_h347), some (.inl v_h348), some (.inl 0)]) (st' := []) (w' := (SH, dt)) rfl ?_
                      exact GO.le (j404 (l37_4 + (v_h348 - v_h347)) (l37_5 + (v_h348 + v_h347)) (l37_6 + 0) (l37_7 + 1) (by first | exact bndp i291 (by decide) (by decide) | fail) (by first | exact bndp i292 (by decide) (by decide) | fail) (by omega) (by omega)) ⟨.inl rfl, .inl rfl, .inl rfl, .inl rfl, .inl rfl, .inl rfl, .inl rfl, .inl rfl, .inl rfl, .inr ⟨rfl, trivial⟩, .inr ⟨rfl, trivial⟩, .inr ⟨rfl, trivial⟩, trivial⟩
                  · skip
                    replace c431 := hid c431
                    refine go_ifq PM133 (k := 7) (p1 := 202) (p2 := 198) (L' := [some (.inr (.inr (some 0))), some (.inl p1), some (.inl (([0, 100, 300, 600] : List Int).getD (v_h1).toNat 0)), some (.inl ((p1 / 2) % 3)), some (.inl (l37_4 + (v_h348 - v_h347))), some (.inl (l37_5 + (v_h348 + v_h347))), some (.inl (l37_6 + 1)), some (.inl l37_7), some (.inl l37_8), some (.inl v_h347), some (.inl v_h348), some (.inl 0)]) (st' := [.inl l37_7]) (w' := (SH, dt)) rfl (c_le (a := v_h348) (b := v_h347) (by first | exact bnd h348r (by decide) (by decide) | exact ⟨by fail, by fail⟩) (by first | exact bnd h347r (by decide) (by decide) | exact ⟨by fail, by fail⟩)) (fun c435 => ?_) (fun c435 => ?_)
                    · skip
                      refine go_toq PM133 (k := 3) (pc' := 206) (L' := [some (.inr (.inr (some 0))), some (.inl p1), some (.inl (([0, 100, 300, 600] : List Int).getD (v_h1).toNat 0)), some (.inl ((p1 / 2) % 3)), some (.inl (l37_4 + (v_h348 - v_h347))), some (.inl (l37_5 + (v_h348 + v_h347))), some (.inl (l37_6 + 1)), some (.inl (l37_7 + 0)), some (.inl l37_8), some (.inl v_h347), some (.inl v_h348), some (.inl 0)]) (st' := []) (w' := (SH, dt)) rfl ?_
                      exact GO.le (j404 (l37_4 + (v_h348 - v_h347)) (l37_5 + (v_h348 + v_h347)) (l37_6 + 1) (l37_7 + 0) (by first | exact bndp i291 (by decide) (by decide) | fail) (by first | exact bndp i292 (by decide) (by decide) | fail) (by omega) (by omega)) ⟨.inl rfl, .inl rfl, .inl rfl, .inl rfl, .inl rfl, .inl rfl, .inl rfl, .inl rfl, .inl rfl, .inr ⟨rfl, trivial⟩, .inr ⟨rfl, trivial⟩, .inr ⟨rfl, trivial⟩, trivial⟩
                    · skip
                      refine go_toq PM133 (k := 4) (pc' := 206) (L' := [some (.inr (.inr (some 0))), some (.inl p1), some (.inl (([0, 100, 300, 600] : List Int).getD (v_h1).toNat 0)), some (.inl ((p1 / 2) % 3)), some (.inl (l37_4 + (v_h348 - v_h347))), some (.inl (l37_5 + (v_h348 + v_h347))), some (.inl (l37_6 + 1)), some (.inl (l37_7 + 1)), some (.inl l37_8), some (.inl v_h347), some (.inl v_h348), some (.inl 0)]) (st' := []) (w' := (SH, dt)) rfl ?_
                      exact GO.le (j404 (l37_4 + (v_h348 - v_h347)) (l37_5 + (v_h348 + v_h347)) (l37_6 + 1) (l37_7 + 1) (by first | exact bndp i291 (by decide) (by decide) | fail) (by first | exact bndp i292 (by decide) (by decide) | fail) (by omega) (by omega)) ⟨.inl rfl, .inl rfl, .inl rfl, .inl rfl, .inl rfl, .inl rfl, .inl rfl, .inl rfl, .inl rfl, .inr ⟨rfl, trivial⟩, .inr ⟨rfl, trivial⟩, .inr ⟨rfl, trivial⟩, trivial⟩
                · exfalso; omega
          · skip
            refine go_toq PM133 (k := 2) (pc' := 103) (L' := [some (.inr (.inr (some 0))), some (.inl p1), some (.inl (([0, 100, 300, 600] : List Int).getD (v_h1).toNat 0)), some (.inl ((p1 / 2) % 3)), some (.inl l37_4), some (.inl l37_5), some (.inl l37_6), some (.inl l37_7), some (.inl l37_8), some (.inl v_h347), some (.inl v_h348), none]) (st' := [.inl 1]) (w' := (SH, dt)) rfl ?_
            exact GO.le (j351 ) ⟨.inl rfl, .inl rfl, .inl rfl, .inl rfl, .inl rfl, .inl rfl, .inl rfl, .inl rfl, .inl rfl, .inl rfl, .inl rfl, .inl rfl, trivial⟩
  exact GO.le (loop296 _ 0 0 0 0 0 ⟨by decide, by decide⟩ ⟨by decide, by decide⟩ ⟨by decide, by decide⟩ (by omega) (by omega) (Nat.lt_succ_self _)) ⟨.inl rfl, .inl rfl, .inl rfl, .inl rfl, .inl rfl, .inl rfl, .inl rfl, .inl rfl, .inl rfl, .inl rfl, .inl rfl, .inl rfl, trivial⟩
theorem sp_X5_shareOf (L : Nat) (xs : Nat → Int32) (sio : Option Nat) (d : Nat) (dt : Nat → Nat → Int) (hI : InvC dt)  (p1 : Int) (h_p1 : (-2147483648) ≤ p1 ∧ p1 ≤ 2147483647)  : GO (am_XX L xs sio) (d + 2) 135 0 [some (.inr (.inr (some 0))), some (.inl p1), none] [] (SH, dt) (fun r w2 => w2 = (SH, dt) ∧ ((∃ v : Int, r = some (.inl v) ∧ True ∧ True))) := by
  refine go_toq PM135 (k := 5) (pc' := 9) (L' := [some (.inr (.inr (some 0))), some (.inl p1), none]) (st' := [.inl 0, .inl p1, .inr (.inr (some 16))]) (w' := (SH, dt)) rfl ?_
  refine go_callq PM135 PM39 (Q' := _) rfl rfl rfl rfl (sp_X2_at_16 L xs sio (d + 0) dt hI  p1 (by first | exact h_p1 | exact bnd h_p1 (by decide) (by decide) | exact ⟨by fail, by fail⟩) 0 ⟨by decide, by decide⟩ ) ?_
  rintro _ _ ⟨rfl, h1⟩
  refine ⟨rfl, ?_⟩
  rcases h1 with ⟨v_h1, rfl, h1r, h1⟩
  refine go_ifq PM135 (k := 2) (p1 := 38) (p2 := 17) (L' := [some (.inr (.inr (some 0))), some (.inl p1), some (.inl v_h1)]) (st' := []) (w' := (SH, dt)) rfl (z_le (a := v_h1) (by first | exact bnd h1r (by decide) (by decide) | exact ⟨by fail, by fail⟩)) (fun c4 => ?_) (fun c4 => ?_)
  · skip
    refine go_retq PM135 (k := 1) (r := some (.inl 0)) (w1 := (SH, dt)) rfl ?_
    exact ⟨rfl, ⟨_, rfl, trivial, trivial⟩⟩
  · skip
    refine go_toq PM135 (k := 6) (pc' := 29) (L' := [some (.inr (.inr (some 0))), some (.inl p1), some (.inl v_h1)]) (st' := [.inl 1, .inl p1, .inr (.inr (some 16)), .inl 1000]) (w' := (SH, dt)) rfl ?_
    refine go_callq PM135 PM39 (Q' := _) rfl rfl rfl rfl (sp_X2_at_16 L xs sio (d + 0) dt hI  p1 (by first | exact h_p1 | exact bnd h_p1 (by decide) (by decide) | exact ⟨by fail, by fail⟩) 1 ⟨by decide, by decide⟩ ) ?_
    rintro _ _ ⟨rfl, h5⟩
    refine ⟨rfl, ?_⟩
    rcases h5 with ⟨v_h5, rfl, h5r, h5⟩
    refine go_toq PM135 (k := 2) (pc' := 34) (L' := [some (.inr (.inr (some 0))), some (.inl p1), some (.inl v_h1)]) (st' := [.inl v_h1, .inl (1000 * v_h5)]) (w' := (SH, dt)) rfl ?_
    refine go_smpq PM135 (L' := [some (.inr (.inr (some 0))), some (.inl p1), some (.inl v_h1)]) (st' := [.inl ((wr (1000 * v_h5)).tdiv (wr v_h1))]) (w' := (SH, dt)) rfl rfl (s_idiv (by rw [wr_R ⟨by omega, by omega⟩]; omega)) ?_
    refine go_retq PM135 (k := 1) (r := some (.inl ((wr (1000 * v_h5)).tdiv (wr v_h1)))) (w1 := (SH, dt)) rfl ?_
    exact ⟨rfl, ⟨_, rfl, trivial, trivial⟩⟩
theorem sp_X5_joined (L : Nat) (xs : Nat → Int32) (sio : Option Nat) (d : Nat) (dt : Nat → Nat → Int) (hI : InvC dt)    : GO (am_XX L xs sio) (d + 2) 136 0 [some (.inr (.inr (some 0))), none, none, none] [] (SH, dt) (fun r w2 => w2 = (SH, dt) ∧ ((∃ v : Int, r = some (.inl v) ∧ True ∧ True))) := by
  refine go_toq PM136 (k := 6) (pc' := 6) (L' := [some (.inr (.inr (some 0))), some (.inl 0), some (.inl 0), some (.inl 0)]) (st' := []) (w' := (SH, dt)) rfl ?_
  have loop42 : ∀ (k_ : Nat) (l6_1 : Int) (l6_2 : Int) (l6_3 : Int) (i41 : 0 ≤ l6_3 ∧ l6_3 ≤ 20), (21 - l6_3).toNat < k_ → GO (am_XX L xs sio) (d + 2) 136 6 [some (.inr (.inr (some 0))), some (.inl l6_1), some (.inl l6_2), some (.inl l6_3)] [] (SH, dt) (fun r w2 => w2 = (SH, dt) ∧ ((∃ v : Int, r = some (.inl v) ∧ True ∧ True))) := by
    intro k_
    induction k_ with
    | zero => intro l6_1 l6_2 l6_3 i41 hm; exact absurd hm (Nat.not_lt_zero _)
    | succ k_ ih_loop42 =>
      intro l6_1 l6_2 l6_3 i41 hm
      have r43 : 0 ≤ dt 16 3 ∧ dt 16 3 ≤ 20 := InvC_get hI 16 3 rfl rfl
      refine go_ifq PM136 (k := 5) (p1 := 56) (p2 := 20) (L' := [some (.inr (.inr (some 0))), some (.inl l6_1), some (.inl l6_2), some (.inl l6_3)]) (st' := []) (w' := (SH, dt)) rfl (c_ge (a := l6_3) (b := dt 16 3) (by first | exact bnd i41 (by decide) (by decide) | exact ⟨by fail, by fail⟩) (by first | exact bnd r43 (by decide) (by decide) | exact ⟨by fail, by fail⟩)) (fun c47 => ?_) (fun c47 => ?_)
      · skip
        have r51 := wr_RR l6_1
        refine go_ifq PM136 (k := 1) (p1 := 70) (p2 := 60) (L' := [some (.inr (.inr (some 0))), some (.inl l6_1), some (.inl l6_2), some (.inl l6_3)]) (st' := []) (w' := (SH, dt)) rfl (u_le (a := wr l6_1) (b := 0)) (fun c50 => ?_) (fun c50 => ?_)
        · skip
          refine go_retq PM136 (k := 1) (r := some (.inl (-1))) (w1 := (SH, dt)) rfl ?_
          exact ⟨rfl, ⟨_, rfl, trivial, trivial⟩⟩
        · skip
          refine go_toq PM136 (k := 4) (pc' := 66) (L' := [some (.inr (.inr (some 0))), some (.inl l6_1), some (.inl l6_2), some (.inl l6_3)]) (st' := [.inl l6_1, .inl (1000 * l6_2)]) (w' := (SH, dt)) rfl ?_
          refine go_smpq PM136 (L' := [some (.inr (.inr (some 0))), some (.inl l6_1), some (.inl l6_2), some (.inl l6_3)]) (st' := [.inl ((wr (1000 * l6_2)).tdiv (wr l6_1))]) (w' := (SH, dt)) rfl rfl (s_idiv (by omega)) ?_
          refine go_retq PM136 (k := 1) (r := some (.inl ((wr (1000 * l6_2)).tdiv (wr l6_1)))) (w1 := (SH, dt)) rfl ?_
          exact ⟨rfl, ⟨_, rfl, trivial, trivial⟩⟩
      · skip
        refine go_toq PM136 (k := 6) (pc' := 30) (L' := [some (.inr (.inr (some 0))), some (.inl l6_1), some (.inl l6_2), some (.inl l6_3)]) (st' := [.inl 0, .inl l6_3, .inr (.inr (some 16)), .inl l6_1]) (w' := (SH, dt)) rfl ?_
        refine go_callq PM136 PM39 (Q' := _) rfl rfl rfl rfl (sp_X2_at_16 L xs sio (d + 0) dt hI  l6_3 (by first | exact bnd i41 (by decide) (by decide) | exact bndd i41 c47 (by decide) (by decide) | exact ⟨by fail, by fail⟩) 0 ⟨by decide, by decide⟩ ) ?_
        rintro _ _ ⟨rfl, h52⟩
        refine ⟨rfl, ?_⟩
        rcases h52 with ⟨v_h52, rfl, h52r, h52⟩
        refine go_toq PM136 (k := 8) (pc' := 45) (L' := [some (.inr (.inr (some 0))), some (.inl (l6_1 + v_h52)), some (.inl l6_2), some (.inl l6_3)]) (st' := [.inl 1, .inl l6_3, .inr (.inr (some 16)), .inl l6_2]) (w' := (SH, dt)) rfl ?_
        refine go_callq PM136 PM39 (Q' := _) rfl rfl rfl rfl (sp_X2_at_16 L xs sio (d + 0) dt hI  l6_3 (by first | exact bnd i41 (by decide) (by decide) | exact bndd i41 c47 (by decide) (by decide) | exact ⟨by fail, by fail⟩) 1 ⟨by decide, by decide⟩ ) ?_
        rintro _ _ ⟨rfl, h53⟩
        refine ⟨rfl, ?_⟩
        rcases h53 with ⟨v_h53, rfl, h53r, h53⟩
        refine go_toq PM136 (k := 4) (pc' := 6) (L' := [some (.inr (.inr (some 0))), some (.inl (l6_1 + v_h52)), some (.inl (l6_2 + v_h53)), some (.inl (l6_3 + 1))]) (st' := []) (w' := (SH, dt)) rfl ?_
        exact GO.le (ih_loop42 (l6_1 + v_h52) (l6_2 + v_h53) (l6_3 + 1) (by first | exact bndp i41 (by decide) (by decide) | exact bnde i41 c47 (by decide) (by decide) | omega) (by omega)) ⟨.inl rfl, .inl rfl, .inl rfl, .inl rfl, trivial⟩
  exact GO.le (loop42 _ 0 0 0 ⟨by decide, by decide⟩ (Nat.lt_succ_self _)) ⟨.inl rfl, .inl rfl, .inl rfl, .inl rfl, trivial⟩
theorem sp_X5_farApart (L : Nat) (xs : Nat → Int32) (sio : Option Nat) (d : Nat) (dt : Nat → Nat → Int) (hI : InvC dt)    : GO (am_XX L xs sio) (d + 3) 137 0 [some (.inr (.inr (some 0))), none, none, none, none, none, none] [] (SH, dt) (fun r w2 => w2 = (SH, dt) ∧ ((∃ v : Int, r = some (.inl v) ∧ True ∧ True))) := by
  refine go_toq PM137 (k := 1) (pc' := 1) (L' := [some (.inr (.inr (some 0))), none, none, none, none, none, none]) (st' := [.inr (.inr (some 0))]) (w' := (SH, dt)) rfl ?_
  refine go_callq PM137 PM136 (Q' := _) rfl rfl rfl rfl (sp_X5_joined L xs sio (d + 0) dt hI   ) ?_
  rintro _ _ ⟨rfl, h1⟩
  refine ⟨rfl, ?_⟩
  rcases h1 with ⟨v_h1, rfl, h1r, h1⟩
  refine go_toq PM137 (k := 5) (pc' := 10) (L' := [some (.inr (.inr (some 0))), some (.inl v_h1), some (.inr (.inl 0)), none, some (.inl 0), none, none]) (st' := []) (w' := (SH, dt)) rfl ?_
  have loop51 : ∀ (k_ : Nat) (l10_2 : Int) (l10_4 : Int) (i50 : 0 ≤ l10_4 ∧ l10_4 ≤ 20), (21 - l10_4).toNat < k_ → GO (am_XX L xs sio) (d + 3) 137 10 [some (.inr (.inr (some 0))), some (.inl v_h1), some (.inr (.inl l10_2)), none, some (.inl l10_4), none, none] [] (SH, dt) (fun r w2 => w2 = (SH, dt) ∧ ((∃ v : Int, r = some (.inl v) ∧ True ∧ True))) := by
    intro k_
    induction k_ with
    | zero => intro l10_2 l10_4 i50 hm; exact absurd hm (Nat.not_lt_zero _)
    | succ k_ ih_loop51 =>
      intro l10_2 l10_4 i50 hm
      have r52 : 0 ≤ dt 16 3 ∧ dt 16 3 ≤ 20 := InvC_get hI 16 3 rfl rfl
      refine go_ifq PM137 (k := 5) (p1 := 65) (p2 := 25) (L' := [some (.inr (.inr (some 0))), some (.inl v_h1), some (.inr (.inl l10_2)), none, some (.inl l10_4), none, none]) (st' := []) (w' := (SH, dt)) rfl (c_ge (a := l10_4) (b := dt 16 3) (by first | exact bnd i50 (by decide) (by decide) | exact ⟨by fail, by fail⟩) (by first | exact bnd r52 (by decide) (by decide) | exact ⟨by fail, by fail⟩)) (fun c57 => ?_) (fun c57 => ?_)
      · skip
        refine go_toq PM137 (k := 2) (pc' := 69) (L' := [some (.inr (.inr (some 0))), some (.inl v_h1), some (.inr (.inl l10_2)), none, some (.inl l10_4), none, none]) (st' := [.inr (.inl 1000), .inr (.inl l10_2)]) (w' := (SH, dt)) rfl ?_
        refine go_smpq PM137 (L' := [some (.inr (.inr (some 0))), some (.inl v_h1), some (.inr (.inl l10_2)), none, some (.inl l10_4), none, none]) (st' := [.inr (.inl ((wl l10_2).tdiv (wl 1000)))]) (w' := (SH, dt)) rfl rfl (s_ldiv (by rw [wl_id (by omega) (by omega)]; omega)) ?_
        refine go_retq PM137 (k := 1) (r := some (.inl ((wl l10_2).tdiv (wl 1000)))) (w1 := (SH, dt)) rfl ?_
        exact ⟨rfl, ⟨_, rfl, trivial, trivial⟩⟩
      · skip
        refine go_toq PM137 (k := 2) (pc' := 28) (L' := [some (.inr (.inr (some 0))), some (.inl v_h1), some (.inr (.inl l10_2)), none, some (.inl l10_4), none, none]) (st' := [.inl l10_4, .inr (.inr (some 0))]) (w' := (SH, dt)) rfl ?_
        refine go_callq PM137 PM135 (Q' := _) rfl rfl rfl rfl (sp_X5_shareOf L xs sio (d + 0) dt hI  l10_4 (by first | exact bnd i50 (by decide) (by decide) | exact bndd i50 c57 (by decide) (by decide) | exact ⟨by fail, by fail⟩) ) ?_
        rintro _ _ ⟨rfl, h58⟩
        refine ⟨rfl, ?_⟩
        rcases h58 with ⟨v_h58, rfl, h58r, h58⟩
        have r59 := wr_RR (v_h58 - v_h1)
        refine go_toq PM137 (k := 10) (pc' := 47) (L' := [some (.inr (.inr (some 0))), some (.inl v_h1), some (.inr (.inl l10_2)), none, some (.inl l10_4), some (.inr (.inl (wr (v_h58 - v_h1)))), none]) (st' := [.inl 0, .inl l10_4, .inr (.inr (some 16)), .inr (.inl l10_2)]) (w' := (SH, dt)) rfl ?_
        refine go_callq PM137 PM39 (Q' := _) rfl rfl rfl rfl (sp_X2_at_16 L xs sio (d + 1) dt hI  l10_4 (by first | exact bnd i50 (by decide) (by decide) | exact bndd i50 c57 (by decide) (by decide) | exact ⟨by fail, by fail⟩) 0 ⟨by decide, by decide⟩ ) ?_
        rintro _ _ ⟨rfl, h60⟩
        refine ⟨rfl, ?_⟩
        rcases h60 with ⟨v_h60, rfl, h60r, h60⟩
        refine go_smpq PM137 (L' := [some (.inr (.inr (some 0))), some (.inl v_h1), some (.inr (.inl l10_2)), none, some (.inl l10_4), some (.inr (.inl (wr (v_h58 - v_h1)))), none]) (st' := [.inr (.inl v_h60), .inr (.inl l10_2)]) (w' := (SH, dt)) rfl rfl (s_i2l ⟨by omega, by omega⟩) ?_
        refine go_toq PM137 (k := 8) (pc' := 10) (L' := [some (.inr (.inr (some 0))), some (.inl v_h1), some (.inr (.inl (l10_2 + ((v_h60 * (wr (v_h58 - v_h1))) * (wr (v_h58 - v_h1)))))), none, some (.inl (l10_4 + 1)), some (.inr (.inl (wr (v_h58 - v_h1)))), none]) (st' := []) (w' := (SH, dt)) rfl ?_
        exact GO.le (ih_loop51 (l10_2 + ((v_h60 * (wr (v_h58 - v_h1))) * (wr (v_h58 - v_h1)))) (l10_4 + 1) (by first | exact bndp i50 (by decide) (by decide) | exact bnde i50 c57 (by decide) (by decide) | omega) (by omega)) ⟨.inl rfl, .inl rfl, .inl rfl, .inl rfl, .inl rfl, .inr ⟨rfl, trivial⟩, .inl rfl, trivial⟩
  exact GO.le (loop51 _ 0 0 ⟨by decide, by decide⟩ (Nat.lt_succ_self _)) ⟨.inl rfl, .inl rfl, .inl rfl, .inl rfl, .inl rfl, .inl rfl, .inl rfl, trivial⟩
theorem sp_X5_offHouses (L : Nat) (xs : Nat → Int32) (sio : Option Nat) (d : Nat) (dt : Nat → Nat → Int) (hI : InvC dt)    : GO (am_XX L xs sio) (d + 3) 138 0 [some (.inr (.inr (some 0))), none, none, none, none] [] (SH, dt) (fun r w2 => w2 = (SH, dt) ∧ ((∃ v : Int, r = some (.inl v) ∧ (0 ≤ v ∧ v ≤ 2147483647) ∧ True))) := by
  refine go_toq PM138 (k := 1) (pc' := 1) (L' := [some (.inr (.inr (some 0))), none, none, none, none]) (st' := [.inr (.inr (some 0))]) (w' := (SH, dt)) rfl ?_
  refine go_callq PM138 PM136 (Q' := _) rfl rfl rfl rfl (sp_X5_joined L xs sio (d + 0) dt hI   ) ?_
  rintro _ _ ⟨rfl, h1⟩
  refine ⟨rfl, ?_⟩
  rcases h1 with ⟨v_h1, rfl, h1r, h1⟩
  refine go_toq PM138 (k := 5) (pc' := 9) (L' := [some (.inr (.inr (some 0))), some (.inl v_h1), some (.inl 0), some (.inl 0), none]) (st' := []) (w' := (SH, dt)) rfl ?_
  have loop485 : ∀ (k_ : Nat) (l9_2 : Int) (l9_3 : Int) (i483 : 0 ≤ l9_2 ∧ l9_2 ≤ 2147483647) (i484 : 0 ≤ l9_3 ∧ l9_3 ≤ 20), (21 - l9_3).toNat < k_ → GO (am_XX L xs sio) (d + 3) 138 9 [some (.inr (.inr (some 0))), some (.inl v_h1), some (.inl l9_2), some (.inl l9_3), none] [] (SH, dt) (fun r w2 => w2 = (SH, dt) ∧ ((∃ v : Int, r = some (.inl v) ∧ (0 ≤ v ∧ v ≤ 2147483647) ∧ True))) := by
    intro k_
    induction k_ with
    | zero => intro l9_2 l9_3 i483 i484 hm; exact absurd hm (Nat.not_lt_zero _)
    | succ k_ ih_loop485 =>
      intro l9_2 l9_3 i483 i484 hm
      have r486 : 0 ≤ dt 16 3 ∧ dt 16 3 ≤ 20 := InvC_get hI 16 3 rfl rfl
      refine go_ifq PM138 (k := 5) (p1 := 71) (p2 := 23) (L' := [some (.inr (.inr (some 0))), some (.inl v_h1), some (.inl l9_2), some (.inl l9_3), none]) (st' := []) (w' := (SH, dt)) rfl (c_ge (a := l9_3) (b := dt 16 3) (by first | exact bnd i484 (by decide) (by decide) | exact ⟨by fail, by fail⟩) (by first | exact bnd r486 (by decide) (by decide) | exact ⟨by fail, by fail⟩)) (fun c498 => ?_) (fun c498 => ?_)
      · skip
        refine go_retq PM138 (k := 1) (r := some (.inl l9_2)) (w1 := (SH, dt)) rfl ?_
        exact ⟨rfl, ⟨_, rfl, (by first | exact bnd i483 (by decide) (by decide) | exact ⟨by fail, by fail⟩), trivial⟩⟩
      · skip
        refine go_toq PM138 (k := 2) (pc' := 25) (L' := [some (.inr (.inr (some 0))), some (.inl v_h1), some (.inl l9_2), some (.inl l9_3), none]) (st' := [.inl l9_3, .inr (.inr (some 0))]) (w' := (SH, dt)) rfl ?_
        refine go_callq PM138 PM135 (Q' := _) rfl rfl rfl rfl (sp_X5_shareOf L xs sio (d + 0) dt hI  l9_3 (by first | exact bnd i484 (by decide) (by decide) | exact bndd i484 c498 (by decide) (by decide) | exact ⟨by fail, by fail⟩) ) ?_
        rintro _ _ ⟨rfl, h499⟩
        refine ⟨rfl, ?_⟩
        rcases h499 with ⟨v_h499, rfl, h499r, h499⟩
        refine go_toq PM138 (k := 2) (pc' := 30) (L' := [some (.inr (.inr (some 0))), some (.inl v_h1), some (.inl l9_2), some (.inl l9_3), none]) (st' := [.inl (v_h499 - v_h1)]) (w' := (SH, dt)) rfl ?_
        refine go_callq PM138 PM264 (Q' := _) rfl rfl rfl rfl (sp_J9_abs_0f7a4_u L xs sio (d + 2) dt hI  (v_h499 - v_h1) ) ?_
        rintro _ _ ⟨rfl, h500⟩
        refine ⟨rfl, ?_⟩
        rcases h500 with ⟨v_h500, rfl, h500r, h500⟩
        refine go_toq PM138 (k := 8) (pc' := 47) (L' := [some (.inr (.inr (some 0))), some (.inl v_h1), some (.inl l9_2), some (.inl l9_3), some (.inl v_h500)]) (st' := [.inl 0, .inl l9_3, .inr (.inr (some 16)), .inl v_h500, .inl l9_2]) (w' := (SH, dt)) rfl ?_
        refine go_callq PM138 PM39 (Q' := _) rfl rfl rfl rfl (sp_X2_at_16 L xs sio (d + 1) dt hI  l9_3 (by first | exact bnd i484 (by decide) (by decide) | exact bndd i484 c498 (by decide) (by decide) | exact ⟨by fail, by fail⟩) 0 ⟨by decide, by decide⟩ ) ?_
        rintro _ _ ⟨rfl, h501⟩
        refine ⟨rfl, ?_⟩
        rcases h501 with ⟨v_h501, rfl, h501r, h501⟩
        refine go_callq PM138 PM112 (Q' := _) rfl rfl rfl rfl (sp_X5_thousandByRoot L xs sio (d + 1) dt hI  v_h501 ) ?_
        rintro _ _ ⟨rfl, h502⟩
        refine ⟨rfl, ?_⟩
        rcases h502 with ⟨v_h502, rfl, h502r, h502⟩
        have r508 := wr_RR v_h500
        have r509 := wr_RR v_h502
        refine go_ifq PM138 (k := 0) (p1 := 62) (p2 := 56) (L' := [some (.inr (.inr (some 0))), some (.inl v_h1), some (.inl l9_2), some (.inl l9_3), some (.inl v_h500)]) (st' := [.inl l9_2]) (w' := (SH, dt)) rfl (u_le (a := wr v_h500) (b := wr v_h502)) (fun c507 => ?_) (fun c507 => ?_)
        · skip
          have r510 : 0 ≤ am_or l9_2 0 ∧ am_or l9_2 0 ≤ 2147483647 := am_or_N (n := 31) ⟨by omega, by omega⟩ ⟨by omega, by omega⟩ (by decide) (by decide)
          refine go_toq PM138 (k := 5) (pc' := 9) (L' := [some (.inr (.inr (some 0))), some (.inl v_h1), some (.inl (am_or l9_2 0)), some (.inl (l9_3 + 1)), some (.inl v_h500)]) (st' := []) (w' := (SH, dt)) rfl ?_
          exact GO.le (ih_loop485 (am_or l9_2 0) (l9_3 + 1) (by first | exact bnd r510 (by decide) (by decide) | fail) (by first | exact bndp i484 (by decide) (by decide) | exact bnde i484 c498 (by decide) (by decide) | omega) (by omega)) ⟨.inl rfl, .inl rfl, .inl rfl, .inl rfl, .inr ⟨rfl, trivial⟩, trivial⟩
        · skip
          have r511 : 1 ≤ am_shl 1 l9_3 ∧ am_shl 1 l9_3 ≤ 1073741824 := shl1_R ⟨by omega, by omega⟩
          have r512 : 0 ≤ am_or l9_2 (am_shl 1 l9_3) ∧ am_or l9_2 (am_shl 1 l9_3) ≤ 2147483647 := am_or_N (n := 31) ⟨by omega, by omega⟩ ⟨by omega, by omega⟩ (by decide) (by decide)
          refine go_toq PM138 (k := 8) (pc' := 9) (L' := [some (.inr (.inr (some 0))), some (.inl v_h1), some (.inl (am_or l9_2 (am_shl 1 l9_3))), some (.inl (l9_3 + 1)), some (.inl v_h500)]) (st' := []) (w' := (SH, dt)) rfl ?_
          exact GO.le (ih_loop485 (am_or l9_2 (am_shl 1 l9_3)) (l9_3 + 1) (by first | exact bnd r512 (by decide) (by decide) | fail) (by first | exact bndp i484 (by decide) (by decide) | exact bnde i484 c498 (by decide) (by decide) | omega) (by omega)) ⟨.inl rfl, .inl rfl, .inl rfl, .inl rfl, .inr ⟨rfl, trivial⟩, trivial⟩
  exact GO.le (loop485 _ 0 0 ⟨by decide, by decide⟩ ⟨by decide, by decide⟩ (Nat.lt_succ_self _)) ⟨.inl rfl, .inl rfl, .inl rfl, .inl rfl, .inl rfl, trivial⟩
theorem sp_X5_haveHouses (L : Nat) (xs : Nat → Int32) (sio : Option Nat) (d : Nat) (dt : Nat → Nat → Int) (hI : InvC dt)    : GO (am_XX L xs sio) (d + 3) 139 0 [some (.inr (.inr (some 0))), none, none] [] (SH, dt) (fun r w2 => w2 = (SH, dt) ∧ ((∃ v : Int, r = some (.inl v) ∧ (0 ≤ v ∧ v ≤ 2147483647) ∧ True))) := by
  refine go_toq PM139 (k := 4) (pc' := 4) (L' := [some (.inr (.inr (some 0))), some (.inl 0), some (.inl 0)]) (st' := []) (w' := (SH, dt)) rfl ?_
  have loop383 : ∀ (k_ : Nat) (l4_1 : Int) (l4_2 : Int) (i381 : 0 ≤ l4_1 ∧ l4_1 ≤ 2147483647) (i382 : 0 ≤ l4_2 ∧ l4_2 ≤ 20), (21 - l4_2).toNat < k_ → GO (am_XX L xs sio) (d + 3) 139 4 [some (.inr (.inr (some 0))), some (.inl l4_1), some (.inl l4_2)] [] (SH, dt) (fun r w2 => w2 = (SH, dt) ∧ ((∃ v : Int, r = some (.inl v) ∧ (0 ≤ v ∧ v ≤ 2147483647) ∧ True))) := by
    intro k_
    induction k_ with
    | zero => intro l4_1 l4_2 i381 i382 hm; exact absurd hm (Nat.not_lt_zero _)
    | succ k_ ih_loop383 =>
      intro l4_1 l4_2 i381 i382 hm
      have r384 : 0 ≤ dt 16 3 ∧ dt 16 3 ≤ 20 := InvC_get hI 16 3 rfl rfl
      refine go_ifq PM139 (k := 5) (p1 := 45) (p2 := 18) (L' := [some (.inr (.inr (some 0))), some (.inl l4_1), some (.inl l4_2)]) (st' := []) (w' := (SH, dt)) rfl (c_ge (a := l4_2) (b := dt 16 3) (by first | exact bnd i382 (by decide) (by decide) | exact ⟨by fail, by fail⟩) (by first | exact bnd r384 (by decide) (by decide) | exact ⟨by fail, by fail⟩)) (fun c393 => ?_) (fun c393 => ?_)
      · skip
        refine go_retq PM139 (k := 1) (r := some (.inl l4_1)) (w1 := (SH, dt)) rfl ?_
        exact ⟨rfl, ⟨_, rfl, (by first | exact bnd i381 (by decide) (by decide) | exact ⟨by fail, by fail⟩), trivial⟩⟩
      · skip
        refine go_toq PM139 (k := 3) (pc' := 21) (L' := [some (.inr (.inr (some 0))), some (.inl l4_1), some (.inl l4_2)]) (st' := [.inl l4_2, .inr (.inr (some 0)), .inl l4_1]) (w' := (SH, dt)) rfl ?_
        refine go_callq PM139 PM135 (Q' := _) rfl rfl rfl rfl (sp_X5_shareOf L xs sio (d + 0) dt hI  l4_2 (by first | exact bnd i382 (by decide) (by decide) | exact bndd i382 c393 (by decide) (by decide) | exact ⟨by fail, by fail⟩) ) ?_
        rintro _ _ ⟨rfl, h394⟩
        refine ⟨rfl, ?_⟩
        rcases h394 with ⟨v_h394, rfl, h394r, h394⟩
        have r400 := wr_RR v_h394
        have r401 := wr_RR 500
        refine go_ifq PM139 (k := 1) (p1 := 36) (p2 := 30) (L' := [some (.inr (.inr (some 0))), some (.inl l4_1), some (.inl l4_2)]) (st' := [.inl l4_1]) (w' := (SH, dt)) rfl (u_lt (a := wr v_h394) (b := wr 500)) (fun c399 => ?_) (fun c399 => ?_)
        · skip
          have r402 : 0 ≤ am_or l4_1 0 ∧ am_or l4_1 0 ≤ 2147483647 := am_or_N (n := 31) ⟨by omega, by omega⟩ ⟨by omega, by omega⟩ (by decide) (by decide)
          refine go_toq PM139 (k := 5) (pc' := 4) (L' := [some (.inr (.inr (some 0))), some (.inl (am_or l4_1 0)), some (.inl (l4_2 + 1))]) (st' := []) (w' := (SH, dt)) rfl ?_
          exact GO.le (ih_loop383 (am_or l4_1 0) (l4_2 + 1) (by first | exact bnd r402 (by decide) (by decide) | fail) (by first | exact bndp i382 (by decide) (by decide) | exact bnde i382 c393 (by decide) (by decide) | omega) (by omega)) ⟨.inl rfl, .inl rfl, .inl rfl, trivial⟩
        · skip
          have r403 : 1 ≤ am_shl 1 l4_2 ∧ am_shl 1 l4_2 ≤ 1073741824 := shl1_R ⟨by omega, by omega⟩
          have r404 : 0 ≤ am_or l4_1 (am_shl 1 l4_2) ∧ am_or l4_1 (am_shl 1 l4_2) ≤ 2147483647 := am_or_N (n := 31) ⟨by omega, by omega⟩ ⟨by omega, by omega⟩ (by decide) (by decide)
          refine go_toq PM139 (k := 8) (pc' := 4) (L' := [some (.inr (.inr (some 0))), some (.inl (am_or l4_1 (am_shl 1 l4_2))), some (.inl (l4_2 + 1))]) (st' := []) (w' := (SH, dt)) rfl ?_
          exact GO.le (ih_loop383 (am_or l4_1 (am_shl 1 l4_2)) (l4_2 + 1) (by first | exact bnd r404 (by decide) (by decide) | fail) (by first | exact bndp i382 (by decide) (by decide) | exact bnde i382 c393 (by decide) (by decide) | omega) (by omega)) ⟨.inl rfl, .inl rfl, .inl rfl, trivial⟩
  exact GO.le (loop383 _ 0 0 ⟨by decide, by decide⟩ ⟨by decide, by decide⟩ (Nat.lt_succ_self _)) ⟨.inl rfl, .inl rfl, .inl rfl, trivial⟩
theorem sp_X5_countStep (L : Nat) (xs : Nat → Int32) (sio : Option Nat) (d : Nat) (dt : Nat → Nat → Int) (hI : InvC dt)  (p1 : Int) (h_p1 : (-2147483648) ≤ p1 ∧ p1 ≤ 2147483647)  : GO (am_XX L xs sio) (d + 3) 140 0 [some (.inr (.inr (some 0))), some (.inl p1), none, none] [] (SH, dt) (fun r w2 => ∃ dt2 : Nat → Nat → Int, w2 = (SH, dt2) ∧ InvC dt2 ∧ Fr [78] dt dt2 ∧ ((r = none ∧ True))) := by
  have hF : Fr [78] dt dt := Fr_refl
  refine go_toq PM140 (k := 4) (pc' := 6) (L' := [some (.inr (.inr (some 0))), some (.inl p1), none, none]) (st' := [.inl 0, .inl 0, .inr (.inr (some 78))]) (w' := (SH, dt)) rfl ?_
  have hI1 : InvC (u2 dt 78 0 0) := InvC_u2 hI (lo := -2147483648) (hi := 2147483647) rfl rfl rfl (by decide) (by decide)
  have hF2 : Fr [78] dt (u2 dt 78 0 0) := Fr_u2 hF (by decide)
  refine go_smpq PM140 (L' := [some (.inr (.inr (some 0))), some (.inl p1), none, none]) (st' := []) (w' := (SH, (u2 dt 78 0 0))) rfl rfl (s_iast (n := 4) rfl ⟨by decide, by decide⟩ ⟨by decide, by decide⟩) ?_
  refine go_toq PM140 (k := 4) (pc' := 13) (L' := [some (.inr (.inr (some 0))), some (.inl p1), none, none]) (st' := [.inl 0, .inl 1, .inr (.inr (some 78))]) (w' := (SH, (u2 dt 78 0 0))) rfl ?_
  have hI3 : InvC (u2 (u2 dt 78 0 0) 78 1 0) := InvC_u2 hI1 (lo := -2147483648) (hi := 2147483647) rfl rfl rfl (by decide) (by decide)
  have hF4 : Fr [78] dt (u2 (u2 dt 78 0 0) 78 1 0) := Fr_u2 hF2 (by decide)
  refine go_smpq PM140 (L' := [some (.inr (.inr (some 0))), some (.inl p1), none, none]) (st' := []) (w' := (SH, (u2 (u2 dt 78 0 0) 78 1 0))) rfl rfl (s_iast (n := 4) rfl ⟨by decide, by decide⟩ ⟨by decide, by decide⟩) ?_
  refine go_toq PM140 (k := 2) (pc' := 16) (L' := [some (.inr (.inr (some 0))), some (.inl p1), some (.inl 0), none]) (st' := []) (w' := (SH, (u2 (u2 dt 78 0 0) 78 1 0))) rfl ?_
  have loop177 : ∀ (k_ : Nat) (l16_2 : Int) (dt173 : Nat → Nat → Int) (hI174 : InvC dt173) (hF175 : Fr [78] dt dt173) (i176 : 0 ≤ l16_2 ∧ l16_2 ≤ 300), (301 - l16_2).toNat < k_ → GO (am_XX L xs sio) (d + 3) 140 16 [some (.inr (.inr (some 0))), some (.inl p1), some (.inl l16_2), none] [] (SH, dt173) (fun r w2 => ∃ dt2 : Nat → Nat → Int, w2 = (SH, dt2) ∧ InvC dt2 ∧ Fr [78] dt dt2 ∧ ((r = none ∧ True))) := by
    intro k_
    induction k_ with
    | zero => intro l16_2 dt173 hI174 hF175 i176 hm; exact absurd hm (Nat.not_lt_zero _)
    | succ k_ ih_loop177 =>
      intro l16_2 dt173 hI174 hF175 i176 hm
      have r178 : 0 ≤ dt173 12 3 ∧ dt173 12 3 ≤ 300 := InvC_get hI174 12 3 rfl rfl
      refine go_ifq PM140 (k := 5) (p1 := 120) (p2 := 30) (L' := [some (.inr (.inr (some 0))), some (.inl p1), some (.inl l16_2), none]) (st' := []) (w' := (SH, dt173)) rfl (c_ge (a := l16_2) (b := dt173 12 3) (by first | exact bnd i176 (by decide) (by decide) | exact ⟨by fail, by fail⟩) (by first | exact bnd r178 (by decide) (by decide) | exact ⟨by fail, by fail⟩)) (fun c198 => ?_) (fun c198 => ?_)
      · skip
        refine go_retq PM140 (k := 0) (r := none) (w1 := (SH, dt173)) rfl ?_
        exact ⟨dt173, rfl, hI174, hF175, ⟨rfl, trivial⟩⟩
      · skip
        refine go_toq PM140 (k := 8) (pc' := 46) (L' := [some (.inr (.inr (some 0))), some (.inl p1), some (.inl l16_2), none]) (st' := [.inl 0, .inl l16_2, .inr (.inr (some 12)), .inr (.inr (some 10))]) (w' := (SH, dt173)) rfl ?_
        refine go_callq PM140 PM39 (Q' := _) rfl rfl rfl rfl (sp_X2_at_12 L xs sio (d + 1) dt173 hI174  l16_2 (by first | exact bnd i176 (by decide) (by decide) | exact bndd i176 c198 (by decide) (by decide) | exact ⟨by fail, by fail⟩) 0 ⟨by decide, by decide⟩ ) ?_
        rintro _ _ ⟨rfl, h199⟩
        refine ⟨rfl, ?_⟩
        rcases h199 with ⟨v_h199, rfl, h199r, h199⟩
        refine go_toq PM140 (k := 1) (pc' := 50) (L' := [some (.inr (.inr (some 0))), some (.inl p1), some (.inl l16_2), none]) (st' := [.inl 1, .inl v_h199, .inr (.inr (some 10))]) (w' := (SH, dt173)) rfl ?_
        refine go_callq PM140 PM39 (Q' := _) rfl rfl rfl rfl (sp_X2_at_10 L xs sio (d + 1) dt173 hI174  v_h199 (by first | exact bnd h199r (by decide) (by decide) | exact ⟨by fail, by fail⟩) 1 ⟨by decide, by decide⟩ ) ?_
        rintro _ _ ⟨rfl, h200⟩
        refine ⟨rfl, ?_⟩
        rcases h200 with ⟨v_h200, rfl, h200r, h200⟩
        refine go_toq PM140 (k := 3) (pc' := 57) (L' := [some (.inr (.inr (some 0))), some (.inl p1), some (.inl l16_2), some (.inl v_h200)]) (st' := [.inl 6, .inl v_h200]) (w' := (SH, dt173)) rfl ?_
        have r201 : -2147483648 ≤ (wr v_h200).tdiv (wr 6) ∧ (wr v_h200).tdiv (wr 6) ≤ 2147483647 := tdiv_R (by decide)
        refine go_smpq PM140 (L' := [some (.inr (.inr (some 0))), some (.inl p1), some (.inl l16_2), some (.inl v_h200)]) (st' := [.inl ((wr v_h200).tdiv (wr 6))]) (w' := (SH, dt173)) rfl rfl (s_idiv (by rw [wr_R ⟨by omega, by omega⟩]; omega)) ?_
        have j216 : ∀ (j216_d : Nat → Nat → Int) (j216_hI : InvC j216_d) (j216_hF : Fr [78] dt j216_d), GO (am_XX L xs sio) (d + 3) 140 114 [some (.inr (.inr (some 0))), some (.inl p1), some (.inl l16_2), none] [] (SH, j216_d) (fun r w2 => ∃ dt2 : Nat → Nat → Int, w2 = (SH, dt2) ∧ InvC dt2 ∧ Fr [78] dt dt2 ∧ ((r = none ∧ True))) := by
          intro j216_d j216_hI j216_hF
          refine go_toq PM140 (k := 2) (pc' := 16) (L' := [some (.inr (.inr (some 0))), some (.inl p1), some (.inl (l16_2 + 1)), none]) (st' := []) (w' := (SH, j216_d)) rfl ?_
          exact GO.le (ih_loop177 (l16_2 + 1) j216_d j216_hI j216_hF (by first | exact bndp i176 (by decide) (by decide) | exact bnde i176 c198 (by decide) (by decide) | omega) (by omega)) ⟨.inl rfl, .inl rfl, .inl rfl, .inl rfl, trivial⟩
        refine go_ifq PM140 (k := 1) (p1 := 114) (p2 := 62) (L' := [some (.inr (.inr (some 0))), some (.inl p1), some (.inl l16_2), some (.inl v_h200)]) (st' := []) (w' := (SH, dt173)) rfl (c_ne (a := (wr v_h200).tdiv (wr 6)) (b := p1) (by first | exact bnd r201 (by decide) (by decide) | exact ⟨by fail, by fail⟩) (by first | exact bnd h_p1 (by decide) (by decide) | exact ⟨by fail, by fail⟩)) (fun c217 => ?_) (fun c217 => ?_)
        · skip
          replace c217 := hid c217
          exact GO.le (j216 dt173 hI174 hF175) ⟨.inl rfl, .inl rfl, .inl rfl, .inr ⟨rfl, trivial⟩, trivial⟩
        · skip
          refine go_toq PM140 (k := 6) (pc' := 72) (L' := [some (.inr (.inr (some 0))), some (.inl p1), some (.inl l16_2), some (.inl v_h200)]) (st' := [.inl 1, .inl l16_2, .inr (.inr (some 12)), .inr (.inr (some 0))]) (w' := (SH, dt173)) rfl ?_
          refine go_callq PM140 PM39 (Q' := _) rfl rfl rfl rfl (sp_X2_at_12 L xs sio (d + 1) dt173 hI174  l16_2 (by first | exact bnd i176 (by decide) (by decide) | exact bndd i176 c198 (by decide) (by decide) | exact ⟨by fail, by fail⟩) 1 ⟨by decide, by decide⟩ ) ?_
          rintro _ _ ⟨rfl, h218⟩
          refine ⟨rfl, ?_⟩
          rcases h218 with ⟨v_h218, rfl, h218r, h218⟩
          refine go_toq PM140 (k := 1) (pc' := 76) (L' := [some (.inr (.inr (some 0))), some (.inl p1), some (.inl l16_2), some (.inl v_h200)]) (st' := [.inl 0, .inl v_h218, .inr (.inr (some 0))]) (w' := (SH, dt173)) rfl ?_
          refine go_callq PM140 PM117 (Q' := _) rfl rfl rfl rfl (sp_X5_isTelling L xs sio (d + 0) dt173 hI174  v_h218 (by first | exact bnd h218r (by decide) (by decide) | exact ⟨by fail, by fail⟩) 0 ⟨by decide, by decide⟩ ) ?_
          rintro _ _ ⟨rfl, h219⟩
          refine ⟨rfl, ?_⟩
          rcases h219 with ⟨rfl, h219⟩ | ⟨rfl, h219⟩
          · skip
            refine go_toq PM140 (k := 5) (pc' := 88) (L' := [some (.inr (.inr (some 0))), some (.inl p1), some (.inl l16_2), some (.inl v_h200)]) (st' := [.inl 0, .inr (.inr (some 78)), .inl 0, .inr (.inr (some 78))]) (w' := (SH, dt173)) rfl ?_
            have r220 : (-2147483648) ≤ dt173 78 0 ∧ dt173 78 0 ≤ 2147483647 := InvC_get hI174 78 0 rfl rfl
            refine go_smpq PM140 (L' := [some (.inr (.inr (some 0))), some (.inl p1), some (.inl l16_2), some (.inl v_h200)]) (st' := [.inl (dt173 78 0), .inl 0, .inr (.inr (some 78))]) (w' := (SH, dt173)) rfl rfl (s_iald (n := 4) (f := dt173 78) rfl ⟨by decide, by decide⟩) ?_
            refine go_toq PM140 (k := 2) (pc' := 91) (L' := [some (.inr (.inr (some 0))), some (.inl p1), some (.inl l16_2), some (.inl v_h200)]) (st' := [.inl ((dt173 78 0) + 1), .inl 0, .inr (.inr (some 78))]) (w' := (SH, dt173)) rfl ?_
            have r221 := wr_RR ((dt173 78 0) + 1)
            have hI222 : InvC (u2 dt173 78 0 (wr ((dt173 78 0) + 1))) := InvC_u2 hI174 (lo := -2147483648) (hi := 2147483647) rfl rfl rfl (by omega) (by omega)
            have hF223 : Fr [78] dt (u2 dt173 78 0 (wr ((dt173 78 0) + 1))) := Fr_u2 hF175 (by decide)
            refine go_smpq PM140 (L' := [some (.inr (.inr (some 0))), some (.inl p1), some (.inl l16_2), some (.inl v_h200)]) (st' := []) (w' := (SH, (u2 dt173 78 0 (wr ((dt173 78 0) + 1))))) rfl rfl (s_iastw (n := 4) rfl ⟨by decide, by decide⟩) ?_
            refine go_toq PM140 (k := 4) (pc' := 98) (L' := [some (.inr (.inr (some 0))), some (.inl p1), some (.inl l16_2), some (.inl v_h200)]) (st' := [.inl 1, .inr (.inr (some 78)), .inl 1, .inr (.inr (some 78))]) (w' := (SH, (u2 dt173 78 0 (wr ((dt173 78 0) + 1))))) rfl ?_
            have r224 : (-2147483648) ≤ dt173 78 1 ∧ dt173 78 1 ≤ 2147483647 := InvC_get hI174 78 1 rfl rfl
            refine go_smpq PM140 (L' := [some (.inr (.inr (some 0))), some (.inl p1), some (.inl l16_2), some (.inl v_h200)]) (st' := [.inl (dt173 78 1), .inl 1, .inr (.inr (some 78))]) (w' := (SH, (u2 dt173 78 0 (wr ((dt173 78 0) + 1))))) rfl rfl (s_iald (n := 4) (f := (u2 dt173 78 0 (wr ((dt173 78 0) + 1))) 78) rfl ⟨by decide, by decide⟩) ?_
            refine go_toq PM140 (k := 2) (pc' := 101) (L' := [some (.inr (.inr (some 0))), some (.inl p1), some (.inl l16_2), some (.inl v_h200)]) (st' := [.inl l16_2, .inr (.inr (some 0)), .inl (dt173 78 1), .inl 1, .inr (.inr (some 78))]) (w' := (SH, (u2 dt173 78 0 (wr ((dt173 78 0) + 1))))) rfl ?_
            refine go_callq PM140 PM132 (Q' := _) rfl rfl rfl rfl (sp_X5_isRight L xs sio (d + 0) (u2 dt173 78 0 (wr ((dt173 78 0) + 1))) hI222  l16_2 (by first | exact bnd i176 (by decide) (by decide) | exact bndd i176 c198 (by decide) (by decide) | exact ⟨by fail, by fail⟩) ) ?_
            rintro _ _ ⟨rfl, h225⟩
            refine ⟨rfl, ?_⟩
            rcases h225 with ⟨rfl, h225⟩ | ⟨rfl, h225⟩
            · skip
              refine go_toq PM140 (k := 4) (pc' := 113) (L' := [some (.inr (.inr (some 0))), some (.inl p1), some (.inl l16_2), some (.inl v_h200)]) (st' := [.inl ((dt173 78 1) + 1), .inl 1, .inr (.inr (some 78))]) (w' := (SH, (u2 dt173 78 0 (wr ((dt173 78 0) + 1))))) rfl ?_
              have r226 := wr_RR ((dt173 78 1) + 1)
              have hI227 : InvC (u2 (u2 dt173 78 0 (wr ((dt173 78 0) + 1))) 78 1 (wr ((dt173 78 1) + 1))) := InvC_u2 hI222 (lo := -2147483648) (hi := 2147483647) rfl rfl rfl (by omega) (by omega)
              have hF228 : Fr [78] dt (u2 (u2 dt173 78 0 (wr ((dt173 78 0) + 1))) 78 1 (wr ((dt173 78 1) + 1))) := Fr_u2 hF223 (by decide)
              refine go_smpq PM140 (L' := [some (.inr (.inr (some 0))), some (.inl p1), some (.inl l16_2), some (.inl v_h200)]) (st' := []) (w' := (SH, (u2 (u2 dt173 78 0 (wr ((dt173 78 0) + 1))) 78 1 (wr ((dt173 78 1) + 1))))) rfl rfl (s_iastw (n := 4) rfl ⟨by decide, by decide⟩) ?_
              exact GO.le (j216 (u2 (u2 dt173 78 0 (wr ((dt173 78 0) + 1))) 78 1 (wr ((dt173 78 1) + 1))) hI227 hF228) ⟨.inl rfl, .inl rfl, .inl rfl, .inr ⟨rfl, trivial⟩, trivial⟩
            · skip
              refine go_toq PM140 (k := 3) (pc' := 113) (L' := [some (.inr (.inr (some 0))), some (.inl p1), some (.inl l16_2), some (.inl v_h200)]) (st' := [.inl ((dt173 78 1) + 0), .inl 1, .inr (.inr (some 78))]) (w' := (SH, (u2 dt173 78 0 (wr ((dt173 78 0) + 1))))) rfl ?_
              have hI229 : InvC (u2 (u2 dt173 78 0 (wr ((dt173 78 0) + 1))) 78 1 ((dt173 78 1) + 0)) := InvC_u2 hI222 (lo := -2147483648) (hi := 2147483647) rfl rfl rfl (by omega) (by omega)
              have hF230 : Fr [78] dt (u2 (u2 dt173 78 0 (wr ((dt173 78 0) + 1))) 78 1 ((dt173 78 1) + 0)) := Fr_u2 hF223 (by decide)
              refine go_smpq PM140 (L' := [some (.inr (.inr (some 0))), some (.inl p1), some (.inl l16_2), some (.inl v_h200)]) (st' := []) (w' := (SH, (u2 (u2 dt173 78 0 (wr ((dt173 78 0) + 1))) 78 1 ((dt173 78 1) + 0)))) rfl rfl (s_iast (n := 4) rfl ⟨by decide, by decide⟩ (by first | exact bndp r224 (by decide) (by decide) | exact ⟨by fail, by fail⟩)) ?_
              exact GO.le (j216 (u2 (u2 dt173 78 0 (wr ((dt173 78 0) + 1))) 78 1 ((dt173 78 1) + 0)) hI229 hF230) ⟨.inl rfl, .inl rfl, .inl rfl, .inr ⟨rfl, trivial⟩, trivial⟩
          · skip
            refine go_toq PM140 (k := 1) (pc' := 114) (L' := [some (.inr (.inr (some 0))), some (.inl p1), some (.inl l16_2), some (.inl v_h200)]) (st' := []) (w' := (SH, dt173)) rfl ?_
            exact GO.le (j216 dt173 hI174 hF175) ⟨.inl rfl, .inl rfl, .inl rfl, .inr ⟨rfl, trivial⟩, trivial⟩
  exact GO.le (loop177 _ 0 (u2 (u2 dt 78 0 0) 78 1 0) hI3 hF4 ⟨by decide, by decide⟩ (Nat.lt_succ_self _)) ⟨.inl rfl, .inl rfl, .inl rfl, .inl rfl, trivial⟩
theorem sp_X5_turn (L : Nat) (xs : Nat → Int32) (sio : Option Nat) (d : Nat) (dt : Nat → Nat → Int) (hI : InvC dt)    : GO (am_XX L xs sio) (d + 4) 141 0 [some (.inr (.inr (some 0))), none, none] [] (SH, dt) (fun r w2 => ∃ dt2 : Nat → Nat → Int, w2 = (SH, dt2) ∧ InvC dt2 ∧ Fr [78] dt dt2 ∧ ((∃ v : Int, r = some (.inl v) ∧ ((-1) ≤ v ∧ v ≤ 20) ∧ True))) := by
  have hF : Fr [78] dt dt := Fr_refl
  refine go_toq PM141 (k := 4) (pc' := 5) (L' := [some (.inr (.inr (some 0))), some (.inl (-1)), some (.inl 20)]) (st' := []) (w' := (SH, dt)) rfl ?_
  have loop132 : ∀ (k_ : Nat) (l5_1 : Int) (l5_2 : Int) (dt127 : Nat → Nat → Int) (hI128 : InvC dt127) (hF129 : Fr [78] dt dt127) (i130 : (-1) ≤ l5_1 ∧ l5_1 ≤ 20) (i131 : (-1) ≤ l5_2 ∧ l5_2 ≤ 20), (l5_2 + 2).toNat < k_ → GO (am_XX L xs sio) (d + 4) 141 5 [some (.inr (.inr (some 0))), some (.inl l5_1), some (.inl l5_2)] [] (SH, dt127) (fun r w2 => ∃ dt2 : Nat → Nat → Int, w2 = (SH, dt2) ∧ InvC dt2 ∧ Fr [78] dt dt2 ∧ ((∃ v : Int, r = some (.inl v) ∧ ((-1) ≤ v ∧ v ≤ 20) ∧ True))) := by
    intro k_
    induction k_ with
    | zero => intro l5_1 l5_2 dt127 hI128 hF129 i130 i131 hm; exact absurd hm (Nat.not_lt_zero _)
    | succ k_ ih_loop132 =>
      intro l5_1 l5_2 dt127 hI128 hF129 i130 i131 hm
      refine go_ifq PM141 (k := 1) (p1 := 50) (p2 := 9) (L' := [some (.inr (.inr (some 0))), some (.inl l5_1), some (.inl l5_2)]) (st' := []) (w' := (SH, dt127)) rfl (z_lt (a := l5_2) (by first | exact bnd i131 (by decide) (by decide) | exact ⟨by fail, by fail⟩)) (fun c133 => ?_) (fun c133 => ?_)
      · skip
        refine go_retq PM141 (k := 1) (r := some (.inl l5_1)) (w1 := (SH, dt127)) rfl ?_
        exact ⟨dt127, rfl, hI128, hF129, ⟨_, rfl, (by first | exact bnd i130 (by decide) (by decide) | exact ⟨by fail, by fail⟩), trivial⟩⟩
      · skip
        refine go_toq PM141 (k := 2) (pc' := 11) (L' := [some (.inr (.inr (some 0))), some (.inl l5_1), some (.inl l5_2)]) (st' := [.inl l5_2, .inr (.inr (some 0))]) (w' := (SH, dt127)) rfl ?_
        refine go_callq PM141 PM140 (Q' := _) rfl rfl rfl rfl (sp_X5_countStep L xs sio (d + 0) dt127 hI128  l5_2 (by first | exact bnd i131 (by decide) (by decide) | exact ⟨by fail, by fail⟩) ) ?_
        rintro _ _ ⟨dt135, rfl, hI136, hF137, h134⟩
        refine ⟨rfl, ?_⟩
        have hF138 : Fr [78] dt dt135 := Fr_tr hF129 hF137 (by decide)
        rcases h134 with ⟨rfl, h134⟩
        refine go_toq PM141 (k := 3) (pc' := 19) (L' := [some (.inr (.inr (some 0))), some (.inl l5_1), some (.inl l5_2)]) (st' := [.inl 1, .inr (.inr (some 78))]) (w' := (SH, dt135)) rfl ?_
        have r139 : (-2147483648) ≤ dt135 78 1 ∧ dt135 78 1 ≤ 2147483647 := InvC_get hI136 78 1 rfl rfl
        refine go_smpq PM141 (L' := [some (.inr (.inr (some 0))), some (.inl l5_1), some (.inl l5_2)]) (st' := [.inl (dt135 78 1)]) (w' := (SH, dt135)) rfl rfl (s_iald (n := 4) (f := dt135 78) rfl ⟨by decide, by decide⟩) ?_
        refine go_toq PM141 (k := 5) (pc' := 27) (L' := [some (.inr (.inr (some 0))), some (.inl l5_1), some (.inl l5_2)]) (st' := [.inl 0, .inr (.inr (some 78)), .inl ((dt135 78 1) * 2)]) (w' := (SH, dt135)) rfl ?_
        have r140 : (-2147483648) ≤ dt135 78 0 ∧ dt135 78 0 ≤ 2147483647 := InvC_get hI136 78 0 rfl rfl
        refine go_smpq PM141 (L' := [some (.inr (.inr (some 0))), some (.inl l5_1), some (.inl l5_2)]) (st' := [.inl (dt135 78 0), .inl ((dt135 78 1) * 2)]) (w' := (SH, dt135)) rfl rfl (s_iald (n := 4) (f := dt135 78) rfl ⟨by decide, by decide⟩) ?_
        have r142 := wr_RR ((dt135 78 1) * 2)
        have r143 := wr_RR (dt135 78 0)
        refine go_ifq PM141 (k := 0) (p1 := 33) (p2 := 31) (L' := [some (.inr (.inr (some 0))), some (.inl l5_1), some (.inl l5_2)]) (st' := []) (w' := (SH, dt135)) rfl (u_ge (a := wr ((dt135 78 1) * 2)) (b := wr (dt135 78 0))) (fun c141 => ?_) (fun c141 => ?_)
        · skip
          refine go_toq PM141 (k := 3) (pc' := 38) (L' := [some (.inr (.inr (some 0))), some (.inl l5_1), some (.inl l5_2)]) (st' := [.inl 0, .inr (.inr (some 78))]) (w' := (SH, dt135)) rfl ?_
          refine go_smpq PM141 (L' := [some (.inr (.inr (some 0))), some (.inl l5_1), some (.inl l5_2)]) (st' := [.inl (dt135 78 0)]) (w' := (SH, dt135)) rfl rfl (s_iald (n := 4) (f := dt135 78) rfl ⟨by decide, by decide⟩) ?_
          have j145 : ∀ (j145_a1 : Int) (i146 : (-1) ≤ j145_a1 ∧ j145_a1 ≤ 20), GO (am_XX L xs sio) (d + 4) 141 44 [some (.inr (.inr (some 0))), some (.inl j145_a1), some (.inl l5_2)] [] (SH, dt135) (fun r w2 => ∃ dt2 : Nat → Nat → Int, w2 = (SH, dt2) ∧ InvC dt2 ∧ Fr [78] dt dt2 ∧ ((∃ v : Int, r = some (.inl v) ∧ ((-1) ≤ v ∧ v ≤ 20) ∧ True))) := by
            intro j145_a1 i146
            refine go_toq PM141 (k := 2) (pc' := 5) (L' := [some (.inr (.inr (some 0))), some (.inl j145_a1), some (.inl (l5_2 + (-1)))]) (st' := []) (w' := (SH, dt135)) rfl ?_
            exact GO.le (ih_loop132 j145_a1 (l5_2 + (-1)) dt135 hI136 hF138 (by first | exact bnd i146 (by decide) (by decide) | fail) (by omega) (by omega)) ⟨.inl rfl, .inl rfl, .inl rfl, trivial⟩
          refine go_ifq PM141 (k := 0) (p1 := 44) (p2 := 42) (L' := [some (.inr (.inr (some 0))), some (.inl l5_1), some (.inl l5_2)]) (st' := []) (w' := (SH, dt135)) rfl (z_le (a := dt135 78 0) (by first | exact bnd r140 (by decide) (by decide) | exact ⟨by fail, by fail⟩)) (fun c147 => ?_) (fun c147 => ?_)
          · skip
            exact GO.le (j145 l5_1 (by first | exact bnd i130 (by decide) (by decide) | fail)) ⟨.inl rfl, .inl rfl, .inl rfl, trivial⟩
          · skip
            refine go_toq PM141 (k := 2) (pc' := 44) (L' := [some (.inr (.inr (some 0))), some (.inl l5_2), some (.inl l5_2)]) (st' := []) (w' := (SH, dt135)) rfl ?_
            exact GO.le (j145 l5_2 (by first | exact bnd i131 (by decide) (by decide) | fail)) ⟨.inl rfl, .inl rfl, .inl rfl, trivial⟩
        · skip
          refine go_retq PM141 (k := 1) (r := some (.inl l5_1)) (w1 := (SH, dt135)) rfl ?_
          exact ⟨dt135, rfl, hI136, hF138, ⟨_, rfl, (by first | exact bnd i130 (by decide) (by decide) | exact ⟨by fail, by fail⟩), trivial⟩⟩
  exact GO.le (loop132 _ (-1) 20 dt hI hF ⟨by decide, by decide⟩ ⟨by decide, by decide⟩ (Nat.lt_succ_self _)) ⟨.inl rfl, .inl rfl, .inl rfl, trivial⟩
theorem sp_X5_level (L : Nat) (xs : Nat → Int32) (sio : Option Nat) (d : Nat) (dt : Nat → Nat → Int) (hI : InvC dt)  (p1 : Int)  : GO (am_XX L xs sio) (d) 143 0 [some (.inl p1), none, none] [] (SH, dt) (fun r w2 => w2 = (SH, dt) ∧ ((∃ v : Int, r = some (.inl v) ∧ True ∧ True))) := by
  have r2 := wr_RR p1
  refine go_ifq PM143 (k := 1) (p1 := 7) (p2 := 4) (L' := [some (.inl p1), none, none]) (st' := []) (w' := (SH, dt)) rfl (u_gt (a := wr p1) (b := 0)) (fun c1 => ?_) (fun c1 => ?_)
  · skip
    refine go_toq PM143 (k := 2) (pc' := 9) (L' := [some (.inl p1), some (.inl 0), none]) (st' := []) (w' := (SH, dt)) rfl ?_
    have loop36 : ∀ (k_ : Nat) (l9_1 : Int) (i35 : 0 ≤ l9_1 ∧ l9_1 ≤ 20), (21 - l9_1).toNat < k_ → GO (am_XX L xs sio) (d) 143 9 [some (.inl p1), some (.inl l9_1), none] [] (SH, dt) (fun r w2 => w2 = (SH, dt) ∧ ((∃ v : Int, r = some (.inl v) ∧ True ∧ True))) := by
      intro k_
      induction k_ with
      | zero => intro l9_1 i35 hm; exact absurd hm (Nat.not_lt_zero _)
      | succ k_ ih_loop36 =>
        intro l9_1 i35 hm
        have j40 :  GO (am_XX L xs sio) (d) 143 29 [some (.inl p1), some (.inl l9_1), none] [] (SH, dt) (fun r w2 => w2 = (SH, dt) ∧ ((∃ v : Int, r = some (.inl v) ∧ True ∧ True))) := by
          skip
          have r41 : 1 ≤ am_shl 1 l9_1 ∧ am_shl 1 l9_1 ≤ 1073741824 := shl1_R ⟨by omega, by omega⟩
          refine go_toq PM143 (k := 13) (pc' := 44) (L' := [some (.inl p1), some (.inl l9_1), some (.inl (am_shl 1 l9_1))]) (st' := [.inl (am_shl 1 l9_1), .inl ((p1 - (am_shl 1 l9_1)) * 10), .inl (10 * l9_1)]) (w' := (SH, dt)) rfl ?_
          refine go_smpq PM143 (L' := [some (.inl p1), some (.inl l9_1), some (.inl (am_shl 1 l9_1))]) (st' := [.inl ((wr ((p1 - (am_shl 1 l9_1)) * 10)).tdiv (wr (am_shl 1 l9_1))), .inl (10 * l9_1)]) (w' := (SH, dt)) rfl rfl (s_idiv (by rw [wr_R ⟨by omega, by omega⟩]; omega)) ?_
          refine go_retq PM143 (k := 1) (r := some (.inl ((10 * l9_1) + ((wr ((p1 - (am_shl 1 l9_1)) * 10)).tdiv (wr (am_shl 1 l9_1)))))) (w1 := (SH, dt)) rfl ?_
          exact ⟨rfl, ⟨_, rfl, trivial, trivial⟩⟩
        refine go_ifq PM143 (k := 2) (p1 := 29) (p2 := 15) (L' := [some (.inl p1), some (.inl l9_1), none]) (st' := []) (w' := (SH, dt)) rfl (c_ge (a := l9_1) (b := 20) (by first | exact bnd i35 (by decide) (by decide) | exact ⟨by fail, by fail⟩) ⟨by decide, by decide⟩) (fun c42 => ?_) (fun c42 => ?_)
        · skip
          exact GO.le (j40 ) ⟨.inl rfl, .inl rfl, .inl rfl, trivial⟩
        · skip
          have r43 : -2147483648 ≤ am_shr p1 (l9_1 + 1) ∧ am_shr p1 (l9_1 + 1) ≤ 2147483647 := am_shr_R
          refine go_ifq PM143 (k := 5) (p1 := 29) (p2 := 23) (L' := [some (.inl p1), some (.inl l9_1), none]) (st' := []) (w' := (SH, dt)) rfl (z_le (a := am_shr p1 (l9_1 + 1)) (by first | exact bnd r43 (by decide) (by decide) | exact ⟨by fail, by fail⟩)) (fun c44 => ?_) (fun c44 => ?_)
          · skip
            exact GO.le (j40 ) ⟨.inl rfl, .inl rfl, .inl rfl, trivial⟩
          · skip
            refine go_toq PM143 (k := 2) (pc' := 9) (L' := [some (.inl p1), some (.inl (l9_1 + 1)), none]) (st' := []) (w' := (SH, dt)) rfl ?_
            exact GO.le (ih_loop36 (l9_1 + 1) (by first | exact bndp i35 (by decide) (by decide) | exact bnde i35 c42 (by decide) (by decide) | fail) (by omega)) ⟨.inl rfl, .inl rfl, .inl rfl, trivial⟩
    exact GO.le (loop36 _ 0 ⟨by decide, by decide⟩ (Nat.lt_succ_self _)) ⟨.inl rfl, .inl rfl, .inl rfl, trivial⟩
  · skip
    refine go_retq PM143 (k := 1) (r := some (.inl (-50))) (w1 := (SH, dt)) rfl ?_
    exact ⟨rfl, ⟨_, rfl, trivial, trivial⟩⟩
theorem sp_X5_scoreOf (L : Nat) (xs : Nat → Int32) (sio : Option Nat) (d : Nat) (dt : Nat → Nat → Int) (hI : InvC dt)  (p1 : Int) (h_p1 : (-2147483648) ≤ p1 ∧ p1 ≤ 2147483647)  : GO (am_XX L xs sio) (d + 5) 142 0 [some (.inr (.inr (some 0))), some (.inl p1), none, none, none] [] (SH, dt) (fun r w2 => ∃ dt2 : Nat → Nat → Int, w2 = (SH, dt2) ∧ InvC dt2 ∧ Fr [71, 72, 73, 74] dt dt2 ∧ ((∃ v : Int, r = some (.inl v) ∧ True ∧ True))) := by
  have hF : Fr [71, 72, 73, 74] dt dt := Fr_refl
  refine go_toq PM142 (k := 4) (pc' := 4) (L' := [some (.inr (.inr (some 0))), some (.inl p1), some (.inl 0), some (.inl 0), none]) (st' := []) (w' := (SH, dt)) rfl ?_
  have loop117 : ∀ (k_ : Nat) (l4_2 : Int) (l4_3 : Int) (dt113 : Nat → Nat → Int) (hI114 : InvC dt113) (hF115 : Fr [71, 72, 73, 74] dt dt113) (i116 : 0 ≤ l4_3 ∧ l4_3 ≤ 300), (301 - l4_3).toNat < k_ → GO (am_XX L xs sio) (d + 5) 142 4 [some (.inr (.inr (some 0))), some (.inl p1), some (.inl l4_2), some (.inl l4_3), none] [] (SH, dt113) (fun r w2 => ∃ dt2 : Nat → Nat → Int, w2 = (SH, dt2) ∧ InvC dt2 ∧ Fr [71, 72, 73, 74] dt dt2 ∧ ((∃ v : Int, r = some (.inl v) ∧ True ∧ True))) := by
    intro k_
    induction k_ with
    | zero => intro l4_2 l4_3 dt113 hI114 hF115 i116 hm; exact absurd hm (Nat.not_lt_zero _)
    | succ k_ ih_loop117 =>
      intro l4_2 l4_3 dt113 hI114 hF115 i116 hm
      have r118 : 0 ≤ dt113 12 3 ∧ dt113 12 3 ≤ 300 := InvC_get hI114 12 3 rfl rfl
      refine go_ifq PM142 (k := 5) (p1 := 93) (p2 := 18) (L' := [some (.inr (.inr (some 0))), some (.inl p1), some (.inl l4_2), some (.inl l4_3), none]) (st' := []) (w' := (SH, dt113)) rfl (c_ge (a := l4_3) (b := dt113 12 3) (by first | exact bnd i116 (by decide) (by decide) | exact ⟨by fail, by fail⟩) (by first | exact bnd r118 (by decide) (by decide) | exact ⟨by fail, by fail⟩)) (fun c131 => ?_) (fun c131 => ?_)
      · skip
        refine go_retq PM142 (k := 1) (r := some (.inl l4_2)) (w1 := (SH, dt113)) rfl ?_
        exact ⟨dt113, rfl, hI114, hF115, ⟨_, rfl, trivial, trivial⟩⟩
      · skip
        refine go_toq PM142 (k := 5) (pc' := 27) (L' := [some (.inr (.inr (some 0))), some (.inl p1), some (.inl l4_2), some (.inl l4_3), none]) (st' := [.inl 1, .inl l4_3, .inr (.inr (some 12))]) (w' := (SH, dt113)) rfl ?_
        refine go_callq PM142 PM39 (Q' := _) rfl rfl rfl rfl (sp_X2_at_12 L xs sio (d + 3) dt113 hI114  l4_3 (by first | exact bnd i116 (by decide) (by decide) | exact bndd i116 c131 (by decide) (by decide) | exact ⟨by fail, by fail⟩) 1 ⟨by decide, by decide⟩ ) ?_
        rintro _ _ ⟨rfl, h132⟩
        refine ⟨rfl, ?_⟩
        rcases h132 with ⟨v_h132, rfl, h132r, h132⟩
        refine go_toq PM142 (k := 8) (pc' := 43) (L' := [some (.inr (.inr (some 0))), some (.inl p1), some (.inl l4_2), some (.inl l4_3), some (.inl v_h132)]) (st' := [.inl 0, .inl l4_3, .inr (.inr (some 12)), .inl p1, .inr (.inr (some 0))]) (w' := (SH, dt113)) rfl ?_
        refine go_callq PM142 PM39 (Q' := _) rfl rfl rfl rfl (sp_X2_at_12 L xs sio (d + 3) dt113 hI114  l4_3 (by first | exact bnd i116 (by decide) (by decide) | exact bndd i116 c131 (by decide) (by decide) | exact ⟨by fail, by fail⟩) 0 ⟨by decide, by decide⟩ ) ?_
        rintro _ _ ⟨rfl, h133⟩
        refine ⟨rfl, ?_⟩
        rcases h133 with ⟨v_h133, rfl, h133r, h133⟩
        refine go_toq PM142 (k := 6) (pc' := 57) (L' := [some (.inr (.inr (some 0))), some (.inl p1), some (.inl l4_2), some (.inl l4_3), some (.inl v_h132)]) (st' := [.inl 2, .inl l4_3, .inr (.inr (some 12)), .inl v_h132, .inl v_h133, .inl p1, .inr (.inr (some 0))]) (w' := (SH, dt113)) rfl ?_
        refine go_callq PM142 PM39 (Q' := _) rfl rfl rfl rfl (sp_X2_at_12 L xs sio (d + 3) dt113 hI114  l4_3 (by first | exact bnd i116 (by decide) (by decide) | exact bndd i116 c131 (by decide) (by decide) | exact ⟨by fail, by fail⟩) 2 ⟨by decide, by decide⟩ ) ?_
        rintro _ _ ⟨rfl, h134⟩
        refine ⟨rfl, ?_⟩
        rcases h134 with ⟨v_h134, rfl, h134r, h134⟩
        refine go_callq PM142 PM118 (Q' := _) rfl rfl rfl rfl (sp_X5_weigh L xs sio (d + 0) dt113 hI114  p1 (by first | exact h_p1 | exact bnd h_p1 (by decide) (by decide) | exact ⟨by fail, by fail⟩) v_h133 (by first | exact bnd h133r (by decide) (by decide) | exact ⟨by fail, by fail⟩) v_h132 (by first | exact bnd h132r (by decide) (by decide) | exact ⟨by fail, by fail⟩) v_h134 (by first | exact bnd h134r (by decide) (by decide) | exact ⟨by fail, by fail⟩) ) ?_
        rintro _ _ ⟨dt136, rfl, hI137, hF138, h135⟩
        refine ⟨rfl, ?_⟩
        have hF139 : Fr [71, 72, 73, 74] dt dt136 := Fr_tr hF115 hF138 (by decide)
        rcases h135 with ⟨rfl, h135⟩
        refine go_toq PM142 (k := 8) (pc' := 76) (L' := [some (.inr (.inr (some 0))), some (.inl p1), some (.inl l4_2), some (.inl l4_3), some (.inl v_h132)]) (st' := [.inl 3, .inl l4_3, .inr (.inr (some 12)), .inl v_h132, .inr (.inr (some 0)), .inl l4_2]) (w' := (SH, dt136)) rfl ?_
        refine go_callq PM142 PM39 (Q' := _) rfl rfl rfl rfl (sp_X2_at_12 L xs sio (d + 3) dt136 hI137  l4_3 (by first | exact bnd i116 (by decide) (by decide) | exact bndd i116 c131 (by decide) (by decide) | exact ⟨by fail, by fail⟩) 3 ⟨by decide, by decide⟩ ) ?_
        rintro _ _ ⟨rfl, h140⟩
        refine ⟨rfl, ?_⟩
        rcases h140 with ⟨v_h140, rfl, h140r, h140⟩
        refine go_callq PM142 PM119 (Q' := _) rfl rfl rfl rfl (sp_X5_weighedChance L xs sio (d + 2) dt136 hI137  v_h132 (by first | exact bnd h132r (by decide) (by decide) | exact ⟨by fail, by fail⟩) v_h140 (by first | exact bnd h140r (by decide) (by decide) | exact ⟨by fail, by fail⟩) ) ?_
        rintro _ _ ⟨rfl, h141⟩
        refine ⟨rfl, ?_⟩
        rcases h141 with ⟨v_h141, rfl, h141r, h141⟩
        refine go_callq PM142 PM143 (Q' := _) rfl rfl rfl rfl (sp_X5_level L xs sio (d + 4) dt136 hI137  v_h141 ) ?_
        rintro _ _ ⟨rfl, h142⟩
        refine ⟨rfl, ?_⟩
        rcases h142 with ⟨v_h142, rfl, h142r, h142⟩
        refine go_toq PM142 (k := 4) (pc' := 4) (L' := [some (.inr (.inr (some 0))), some (.inl p1), some (.inl (l4_2 + v_h142)), some (.inl (l4_3 + 1)), some (.inl v_h132)]) (st' := []) (w' := (SH, dt136)) rfl ?_
        exact GO.le (ih_loop117 (l4_2 + v_h142) (l4_3 + 1) dt136 hI137 hF139 (by first | exact bndp i116 (by decide) (by decide) | exact bnde i116 c131 (by decide) (by decide) | omega) (by omega)) ⟨.inl rfl, .inl rfl, .inl rfl, .inl rfl, .inr ⟨rfl, trivial⟩, trivial⟩
  exact GO.le (loop117 _ 0 0 dt hI hF ⟨by decide, by decide⟩ (Nat.lt_succ_self _)) ⟨.inl rfl, .inl rfl, .inl rfl, .inl rfl, .inl rfl, trivial⟩
theorem sp_X5_farApartBy (L : Nat) (xs : Nat → Int32) (sio : Option Nat) (d : Nat) (dt : Nat → Nat → Int) (hI : InvC dt)  (p1 : Int) (h_p1 : (-2147483648) ≤ p1 ∧ p1 ≤ 2147483647) (p2 : Int) (h_p2 : (-2147483648) ≤ p2 ∧ p2 ≤ 2147483647) (p3 : Int) (h_p3 : (-2147483648) ≤ p3 ∧ p3 ≤ 2147483647) (p4 : Int) (h_p4 : (-2147483648) ≤ p4 ∧ p4 ≤ 2147483647) (p5 : Int) (h_p5 : (-2147483648) ≤ p5 ∧ p5 ≤ 2147483647)  : GO (am_XX L xs sio) (d + 5) 144 0 [some (.inr (.inr (some 0))), some (.inl p1), some (.inl p2), some (.inl p3), some (.inl p4), some (.inl p5), none, none] [] (SH, dt) (fun r w2 => ∃ dt2 : Nat → Nat → Int, w2 = (SH, dt2) ∧ InvC dt2 ∧ Fr [71, 72, 73, 74, 77] dt dt2 ∧ ((∃ v : Int, r = some (.inl v) ∧ True ∧ True))) := by
  have hF : Fr [71, 72, 73, 74, 77] dt dt := Fr_refl
  refine go_toq PM144 (k := 5) (pc' := 7) (L' := [some (.inr (.inr (some 0))), some (.inl p1), some (.inl p2), some (.inl p3), some (.inl p4), some (.inl p5), none, none]) (st' := [.inl p5, .inl p4, .inl p3, .inl p1, .inr (.inr (some 0))]) (w' := (SH, dt)) rfl ?_
  refine go_callq PM144 PM118 (Q' := _) rfl rfl rfl rfl (sp_X5_weigh L xs sio (d + 0) dt hI  p1 (by first | exact h_p1 | exact bnd h_p1 (by decide) (by decide) | exact ⟨by fail, by fail⟩) p3 (by first | exact h_p3 | exact bnd h_p3 (by decide) (by decide) | exact ⟨by fail, by fail⟩) p4 (by first | exact h_p4 | exact bnd h_p4 (by decide) (by decide) | exact ⟨by fail, by fail⟩) p5 (by first | exact h_p5 | exact bnd h_p5 (by decide) (by decide) | exact ⟨by fail, by fail⟩) ) ?_
  rintro _ _ ⟨dt2, rfl, hI3, hF4, h1⟩
  refine ⟨rfl, ?_⟩
  have hF5 : Fr [71, 72, 73, 74, 77] dt dt2 := Fr_tr hF hF4 (by decide)
  rcases h1 with ⟨rfl, h1⟩
  refine go_toq PM144 (k := 2) (pc' := 13) (L' := [some (.inr (.inr (some 0))), some (.inl p1), some (.inl p2), some (.inl p3), some (.inl p4), some (.inl p5), some (.inl 0), none]) (st' := []) (w' := (SH, dt2)) rfl ?_
  have loop60 : ∀ (k_ : Nat) (l13_6 : Int) (dt56 : Nat → Nat → Int) (hI57 : InvC dt56) (hF58 : Fr [71, 72, 73, 74, 77] dt dt56) (i59 : 0 ≤ l13_6 ∧ l13_6 ≤ 5), (6 - l13_6).toNat < k_ → GO (am_XX L xs sio) (d + 5) 144 13 [some (.inr (.inr (some 0))), none, some (.inl p2), some (.inl p3), some (.inl p4), some (.inl p5), some (.inl l13_6), none] [] (SH, dt56) (fun r w2 => ∃ dt2 : Nat → Nat → Int, w2 = (SH, dt2) ∧ InvC dt2 ∧ Fr [71, 72, 73, 74, 77] dt dt2 ∧ ((∃ v : Int, r = some (.inl v) ∧ True ∧ True))) := by
    intro k_
    induction k_ with
    | zero => intro l13_6 dt56 hI57 hF58 i59 hm; exact absurd hm (Nat.not_lt_zero _)
    | succ k_ ih_loop60 =>
      intro l13_6 dt56 hI57 hF58 i59 hm
      refine go_ifq PM144 (k := 4) (p1 := 54) (p2 := 23) (L' := [some (.inr (.inr (some 0))), none, some (.inl p2), some (.inl p3), some (.inl p4), some (.inl p5), some (.inl l13_6), none]) (st' := []) (w' := (SH, dt56)) rfl (c_ge (a := l13_6) (b := 5) (by first | exact bnd i59 (by decide) (by decide) | exact ⟨by fail, by fail⟩) ⟨by decide, by decide⟩) (fun c71 => ?_) (fun c71 => ?_)
      · skip
        refine go_toq PM144 (k := 5) (pc' := 61) (L' := [some (.inr (.inr (some 0))), none, some (.inl p2), some (.inl p3), some (.inl p4), some (.inl p5), some (.inl l13_6), none]) (st' := [.inl p5, .inl p4, .inl p3, .inl p2, .inr (.inr (some 0))]) (w' := (SH, dt56)) rfl ?_
        refine go_callq PM144 PM118 (Q' := _) rfl rfl rfl rfl (sp_X5_weigh L xs sio (d + 0) dt56 hI57  p2 (by first | exact h_p2 | exact bnd h_p2 (by decide) (by decide) | exact ⟨by fail, by fail⟩) p3 (by first | exact h_p3 | exact bnd h_p3 (by decide) (by decide) | exact ⟨by fail, by fail⟩) p4 (by first | exact h_p4 | exact bnd h_p4 (by decide) (by decide) | exact ⟨by fail, by fail⟩) p5 (by first | exact h_p5 | exact bnd h_p5 (by decide) (by decide) | exact ⟨by fail, by fail⟩) ) ?_
        rintro _ _ ⟨dt73, rfl, hI74, hF75, h72⟩
        refine ⟨rfl, ?_⟩
        have hF76 : Fr [71, 72, 73, 74, 77] dt dt73 := Fr_tr hF58 hF75 (by decide)
        rcases h72 with ⟨rfl, h72⟩
        refine go_toq PM144 (k := 4) (pc' := 70) (L' := [some (.inr (.inr (some 0))), none, some (.inl p2), some (.inl p3), some (.inl p4), some (.inl p5), some (.inl 0), some (.inl 0)]) (st' := []) (w' := (SH, dt73)) rfl ?_
        have loop118 : ∀ (k_ : Nat) (l70_6 : Int) (l70_7 : Int) (i117 : 0 ≤ l70_7 ∧ l70_7 ≤ 5), (6 - l70_7).toNat < k_ → GO (am_XX L xs sio) (d + 5) 144 70 [some (.inr (.inr (some 0))), none, none, none, some (.inl p4), none, some (.inl l70_6), some (.inl l70_7)] [] (SH, dt73) (fun r w2 => ∃ dt2 : Nat → Nat → Int, w2 = (SH, dt2) ∧ InvC dt2 ∧ Fr [71, 72, 73, 74, 77] dt dt2 ∧ ((∃ v : Int, r = some (.inl v) ∧ True ∧ True))) := by
          intro k_
          induction k_ with
          | zero => intro l70_6 l70_7 i117 hm; exact absurd hm (Nat.not_lt_zero _)
          | succ k_ ih_loop118 =>
            intro l70_6 l70_7 i117 hm
            refine go_ifq PM144 (k := 4) (p1 := 120) (p2 := 80) (L' := [some (.inr (.inr (some 0))), none, none, none, some (.inl p4), none, some (.inl l70_6), some (.inl l70_7)]) (st' := []) (w' := (SH, dt73)) rfl (c_ge (a := l70_7) (b := 5) (by first | exact bnd i117 (by decide) (by decide) | exact ⟨by fail, by fail⟩) ⟨by decide, by decide⟩) (fun c126 => ?_) (fun c126 => ?_)
            · skip
              refine go_retq PM144 (k := 1) (r := some (.inl l70_6)) (w1 := (SH, dt73)) rfl ?_
              exact ⟨dt73, rfl, hI74, hF76, ⟨_, rfl, trivial, trivial⟩⟩
            · skip
              refine go_toq PM144 (k := 4) (pc' := 88) (L' := [some (.inr (.inr (some 0))), none, none, none, some (.inl p4), none, some (.inl l70_6), some (.inl l70_7)]) (st' := [.inl l70_7, .inr (.inr (some 77)), .inl l70_6]) (w' := (SH, dt73)) rfl ?_
              have r127 : (-2147483648) ≤ dt73 77 (l70_7).toNat ∧ dt73 77 (l70_7).toNat ≤ 2147483647 := InvC_get hI74 77 (l70_7).toNat rfl rfl
              refine go_smpq PM144 (L' := [some (.inr (.inr (some 0))), none, none, none, some (.inl p4), none, some (.inl l70_6), some (.inl l70_7)]) (st' := [.inl (dt73 77 (l70_7).toNat), .inl l70_6]) (w' := (SH, dt73)) rfl rfl (s_iald (n := 5) (f := dt73 77) rfl (by first | exact bndc i117 c126 (by decide) (by decide) | exact bndx i117 (by decide) (by decide) | exact ⟨by fail, by fail⟩)) ?_
              refine go_ifq PM144 (k := 4) (p1 := 103) (p2 := 98) (L' := [some (.inr (.inr (some 0))), none, none, none, some (.inl p4), none, some (.inl l70_6), some (.inl l70_7)]) (st' := [.inl p4, .inr (.inr (some 0)), .inl (dt73 77 (l70_7).toNat), .inl l70_6]) (w' := (SH, dt73)) rfl (c_ge (a := l70_7) (b := 4) (by first | exact bnd i117 (by decide) (by decide) | exact bndd i117 c126 (by decide) (by decide) | exact ⟨by fail, by fail⟩) ⟨by decide, by decide⟩) (fun c129 => ?_) (fun c129 => ?_)
              · skip
                refine go_toq PM144 (k := 1) (pc' := 104) (L' := [some (.inr (.inr (some 0))), none, none, none, some (.inl p4), none, some (.inl l70_6), some (.inl l70_7)]) (st' := [.inl (-1), .inl p4, .inr (.inr (some 0)), .inl (dt73 77 (l70_7).toNat), .inl l70_6]) (w' := (SH, dt73)) rfl ?_
                refine go_callq PM144 PM119 (Q' := _) rfl rfl rfl rfl (sp_X5_weighedChance L xs sio (d + 2) dt73 hI74  p4 (by first | exact h_p4 | exact bnd h_p4 (by decide) (by decide) | exact ⟨by fail, by fail⟩) (-1) ⟨by decide, by decide⟩ ) ?_
                rintro _ _ ⟨rfl, h130⟩
                refine ⟨rfl, ?_⟩
                rcases h130 with ⟨v_h130, rfl, h130r, h130⟩
                refine go_toq PM144 (k := 1) (pc' := 108) (L' := [some (.inr (.inr (some 0))), none, none, none, some (.inl p4), none, some (.inl l70_6), some (.inl l70_7)]) (st' := [.inl ((dt73 77 (l70_7).toNat) - v_h130), .inl l70_6]) (w' := (SH, dt73)) rfl ?_
                refine go_callq PM144 PM264 (Q' := _) rfl rfl rfl rfl (sp_J9_abs_0f7a4_u L xs sio (d + 4) dt73 hI74  ((dt73 77 (l70_7).toNat) - v_h130) ) ?_
                rintro _ _ ⟨rfl, h131⟩
                refine ⟨rfl, ?_⟩
                rcases h131 with ⟨v_h131, rfl, h131r, h131⟩
                refine go_toq PM144 (k := 4) (pc' := 70) (L' := [some (.inr (.inr (some 0))), none, none, none, some (.inl p4), none, some (.inl (l70_6 + v_h131)), some (.inl (l70_7 + 1))]) (st' := []) (w' := (SH, dt73)) rfl ?_
                exact GO.le (ih_loop118 (l70_6 + v_h131) (l70_7 + 1) (by first | exact bndp i117 (by decide) (by decide) | exact bnde i117 c126 (by decide) (by decide) | fail) (by omega)) ⟨.inl rfl, .inl rfl, .inl rfl, .inl rfl, .inl rfl, .inl rfl, .inl rfl, .inl rfl, trivial⟩
              · skip
                refine go_toq PM144 (k := 2) (pc' := 104) (L' := [some (.inr (.inr (some 0))), none, none, none, some (.inl p4), none, some (.inl l70_6), some (.inl l70_7)]) (st' := [.inl l70_7, .inl p4, .inr (.inr (some 0)), .inl (dt73 77 (l70_7).toNat), .inl l70_6]) (w' := (SH, dt73)) rfl ?_
                refine go_callq PM144 PM119 (Q' := _) rfl rfl rfl rfl (sp_X5_weighedChance L xs sio (d + 2) dt73 hI74  p4 (by first | exact h_p4 | exact bnd h_p4 (by decide) (by decide) | exact ⟨by fail, by fail⟩) l70_7 (by first | exact bnd i117 (by decide) (by decide) | exact bndd i117 c129 (by decide) (by decide) | exact ⟨by fail, by fail⟩) ) ?_
                rintro _ _ ⟨rfl, h132⟩
                refine ⟨rfl, ?_⟩
                rcases h132 with ⟨v_h132, rfl, h132r, h132⟩
                refine go_toq PM144 (k := 1) (pc' := 108) (L' := [some (.inr (.inr (some 0))), none, none, none, some (.inl p4), none, some (.inl l70_6), some (.inl l70_7)]) (st' := [.inl ((dt73 77 (l70_7).toNat) - v_h132), .inl l70_6]) (w' := (SH, dt73)) rfl ?_
                refine go_callq PM144 PM264 (Q' := _) rfl rfl rfl rfl (sp_J9_abs_0f7a4_u L xs sio (d + 4) dt73 hI74  ((dt73 77 (l70_7).toNat) - v_h132) ) ?_
                rintro _ _ ⟨rfl, h133⟩
                refine ⟨rfl, ?_⟩
                rcases h133 with ⟨v_h133, rfl, h133r, h133⟩
                refine go_toq PM144 (k := 4) (pc' := 70) (L' := [some (.inr (.inr (some 0))), none, none, none, some (.inl p4), none, some (.inl (l70_6 + v_h133)), some (.inl (l70_7 + 1))]) (st' := []) (w' := (SH, dt73)) rfl ?_
                exact GO.le (ih_loop118 (l70_6 + v_h133) (l70_7 + 1) (by first | exact bndp i117 (by decide) (by decide) | exact bnde i117 c129 (by decide) (by decide) | fail) (by omega)) ⟨.inl rfl, .inl rfl, .inl rfl, .inl rfl, .inl rfl, .inl rfl, .inl rfl, .inl rfl, trivial⟩
        exact GO.le (loop118 _ 0 0 ⟨by decide, by decide⟩ (Nat.lt_succ_self _)) ⟨.inl rfl, .inl rfl, .inr ⟨rfl, trivial⟩, .inr ⟨rfl, trivial⟩, .inl rfl, .inr ⟨rfl, trivial⟩, .inl rfl, .inl rfl, trivial⟩
      · skip
        refine go_ifq PM144 (k := 7) (p1 := 43) (p2 := 38) (L' := [some (.inr (.inr (some 0))), none, some (.inl p2), some (.inl p3), some (.inl p4), some (.inl p5), some (.inl l13_6), none]) (st' := [.inl p4, .inr (.inr (some 0)), .inl l13_6, .inr (.inr (some 77))]) (w' := (SH, dt56)) rfl (c_ge (a := l13_6) (b := 4) (by first | exact bnd i59 (by decide) (by decide) | exact bndd i59 c71 (by decide) (by decide) | exact ⟨by fail, by fail⟩) ⟨by decide, by decide⟩) (fun c135 => ?_) (fun c135 => ?_)
        · skip
          refine go_toq PM144 (k := 1) (pc' := 44) (L' := [some (.inr (.inr (some 0))), none, some (.inl p2), some (.inl p3), some (.inl p4), some (.inl p5), some (.inl l13_6), none]) (st' := [.inl (-1), .inl p4, .inr (.inr (some 0)), .inl l13_6, .inr (.inr (some 77))]) (w' := (SH, dt56)) rfl ?_
          refine go_callq PM144 PM119 (Q' := _) rfl rfl rfl rfl (sp_X5_weighedChance L xs sio (d + 2) dt56 hI57  p4 (by first | exact h_p4 | exact bnd h_p4 (by decide) (by decide) | exact ⟨by fail, by fail⟩) (-1) ⟨by decide, by decide⟩ ) ?_
          rintro _ _ ⟨rfl, h136⟩
          refine ⟨rfl, ?_⟩
          rcases h136 with ⟨v_h136, rfl, h136r, h136⟩
          have r137 := wr_RR v_h136
          have hI138 : InvC (u2 dt56 77 (l13_6).toNat (wr v_h136)) := InvC_u2 hI57 (lo := -2147483648) (hi := 2147483647) rfl rfl rfl (by omega) (by omega)
          have hF139 : Fr [71, 72, 73, 74, 77] dt (u2 dt56 77 (l13_6).toNat (wr v_h136)) := Fr_u2 hF58 (by decide)
          refine go_smpq PM144 (L' := [some (.inr (.inr (some 0))), none, some (.inl p2), some (.inl p3), some (.inl p4), some (.inl p5), some (.inl l13_6), none]) (st' := []) (w' := (SH, (u2 dt56 77 (l13_6).toNat (wr v_h136)))) rfl rfl (s_iastw (n := 5) rfl ⟨by omega, by omega⟩) ?_
          refine go_toq PM144 (k := 2) (pc' := 13) (L' := [some (.inr (.inr (some 0))), none, some (.inl p2), some (.inl p3), some (.inl p4), some (.inl p5), some (.inl (l13_6 + 1)), none]) (st' := []) (w' := (SH, (u2 dt56 77 (l13_6).toNat (wr v_h136)))) rfl ?_
          exact GO.le (ih_loop60 (l13_6 + 1) (u2 dt56 77 (l13_6).toNat (wr v_h136)) hI138 hF139 (by first | exact bndp i59 (by decide) (by decide) | exact bnde i59 c71 (by decide) (by decide) | fail) (by omega)) ⟨.inl rfl, .inl rfl, .inl rfl, .inl rfl, .inl rfl, .inl rfl, .inl rfl, .inl rfl, trivial⟩
        · skip
          refine go_toq PM144 (k := 2) (pc' := 44) (L' := [some (.inr (.inr (some 0))), none, some (.inl p2), some (.inl p3), some (.inl p4), some (.inl p5), some (.inl l13_6), none]) (st' := [.inl l13_6, .inl p4, .inr (.inr (some 0)), .inl l13_6, .inr (.inr (some 77))]) (w' := (SH, dt56)) rfl ?_
          refine go_callq PM144 PM119 (Q' := _) rfl rfl rfl rfl (sp_X5_weighedChance L xs sio (d + 2) dt56 hI57  p4 (by first | exact h_p4 | exact bnd h_p4 (by decide) (by decide) | exact ⟨by fail, by fail⟩) l13_6 (by first | exact bnd i59 (by decide) (by decide) | exact bndd i59 c135 (by decide) (by decide) | exact ⟨by fail, by fail⟩) ) ?_
          rintro _ _ ⟨rfl, h140⟩
          refine ⟨rfl, ?_⟩
          rcases h140 with ⟨v_h140, rfl, h140r, h140⟩
          have r141 := wr_RR v_h140
          have hI142 : InvC (u2 dt56 77 (l13_6).toNat (wr v_h140)) := InvC_u2 hI57 (lo := -2147483648) (hi := 2147483647) rfl rfl rfl (by omega) (by omega)
          have hF143 : Fr [71, 72, 73, 74, 77] dt (u2 dt56 77 (l13_6).toNat (wr v_h140)) := Fr_u2 hF58 (by decide)
          refine go_smpq PM144 (L' := [some (.inr (.inr (some 0))), none, some (.inl p2), some (.inl p3), some (.inl p4), some (.inl p5), some (.inl l13_6), none]) (st' := []) (w' := (SH, (u2 dt56 77 (l13_6).toNat (wr v_h140)))) rfl rfl (s_iastw (n := 5) rfl ⟨by omega, by omega⟩) ?_
          refine go_toq PM144 (k := 2) (pc' := 13) (L' := [some (.inr (.inr (some 0))), none, some (.inl p2), some (.inl p3), some (.inl p4), some (.inl p5), some (.inl (l13_6 + 1)), none]) (st' := []) (w' := (SH, (u2 dt56 77 (l13_6).toNat (wr v_h140)))) rfl ?_
          exact GO.le (ih_loop60 (l13_6 + 1) (u2 dt56 77 (l13_6).toNat (wr v_h140)) hI142 hF143 (by first | exact bndp i59 (by decide) (by decide) | exact bnde i59 c135 (by decide) (by decide) | fail) (by omega)) ⟨.inl rfl, .inl rfl, .inl rfl, .inl rfl, .inl rfl, .inl rfl, .inl rfl, .inl rfl, trivial⟩
  exact GO.le (loop60 _ 0 dt2 hI3 hF5 ⟨by decide, by decide⟩ (Nat.lt_succ_self _)) ⟨.inl rfl, .inr ⟨rfl, trivial⟩, .inl rfl, .inl rfl, .inl rfl, .inl rfl, .inl rfl, .inl rfl, trivial⟩
