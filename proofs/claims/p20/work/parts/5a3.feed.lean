theorem sp_X1_take_f (L : Nat) (xs : Nat → Int32) (sio : Option Nat) (d : Nat) (dt : Nat → Nat → Int) (hI : InvC dt)  (p1 : Int) (h_p1 : (-2147483648) ≤ p1 ∧ p1 ≤ 2147483647) (h_p0 : dt 35 1 ≤ 496) : GO (am_XX L xs sio) (d) 7 0 [some (.inr (.inr (some 35))), some (.inl p1), none] [] (SH, dt) (fun r w2 => ∃ dt2 : Nat → Nat → Int, w2 = (SH, dt2) ∧ InvC dt2 ∧ Fr [35, 36] dt dt2 ∧ ((r = none ∧ (dt2 35 1 = dt 35 1 + 4) ∧ (FDX (fun j => am_and (dt 36 j) 255) (fun j => am_and (dt2 36 j) 255) (dt 35 1) (dt2 35 1) (BYT p1)) ∧ (dt2 35 2 = dt 35 2) ∧ (dt2 35 3 = dt 35 3)))) := by
  have hF : Fr [35, 36] dt dt := Fr_refl
  have r1 : 0 ≤ dt 35 1 ∧ dt 35 1 ≤ 500 := InvC_get hI 35 1 rfl rfl
  refine go_toq PM7 (k := 2) (pc' := 3) (L' := [some (.inr (.inr (some 35))), some (.inl p1), some (.inl 24)]) (st' := []) (w' := (SH, dt)) rfl ?_
  have loop29 : ∀ (k_ : Nat) (l3_2 : Int) (dt21 : Nat → Nat → Int) (hI22 : InvC dt21) (hF23 : Fr [35, 36] dt dt21) (i24 : (-8) ≤ l3_2 ∧ l3_2 ≤ 24) (i25 : 8 * dt21 35 1 = 8 * dt 35 1 + (24 - l3_2)) (i26 : FDX (fun j => am_and (dt 36 j) 255) (fun j => am_and (dt21 36 j) 255) (dt 35 1) (dt21 35 1) (BYT p1)) (i27 : dt21 35 2 = dt 35 2) (i28 : dt21 35 3 = dt 35 3), (l3_2 + 9).toNat < k_ → GO (am_XX L xs sio) (d) 7 3 [some (.inr (.inr (some 35))), some (.inl p1), some (.inl l3_2)] [] (SH, dt21) (fun r w2 => ∃ dt2 : Nat → Nat → Int, w2 = (SH, dt2) ∧ InvC dt2 ∧ Fr [35, 36] dt dt2 ∧ ((r = none ∧ (dt2 35 1 = dt 35 1 + 4) ∧ (FDX (fun j => am_and (dt 36 j) 255) (fun j => am_and (dt2 36 j) 255) (dt 35 1) (dt2 35 1) (BYT p1)) ∧ (dt2 35 2 = dt 35 2) ∧ (dt2 35 3 = dt 35 3)))) := by
    intro k_
    induction k_ with
    | zero => intro l3_2 dt21 hI22 hF23 i24 i25 i26 i27 i28 hm; exact absurd hm (Nat.not_lt_zero _)
    | succ k_ ih_loop29 =>
      intro l3_2 dt21 hI22 hF23 i24 i25 i26 i27 i28 hm
      have qF := i26
      refine go_ifq PM7 (k := 1) (p1 := 46) (p2 := 7) (L' := [some (.inr (.inr (some 35))), some (.inl p1), some (.inl l3_2)]) (st' := []) (w' := (SH, dt21)) rfl (z_lt (a := l3_2) (by first | exact bnd i24 (by decide) (by decide) | exact ⟨by fail, by fail⟩)) (fun c30 => ?_) (fun c30 => ?_)
      · skip
        refine go_retq PM7 (k := 0) (r := none) (w1 := (SH, dt21)) rfl ?_
        exact ⟨dt21, rfl, hI22, hF23, ⟨rfl, ⟨by first | exact True.intro | with_reducible assumption | rfl | omega | trivial, by first | exact qF | assumption, by first | exact True.intro | with_reducible assumption | rfl | fail | trivial, by first | exact True.intro | with_reducible assumption | rfl | fail | trivial⟩⟩⟩
      · skip
        have r31 : 0 ≤ dt21 35 1 ∧ dt21 35 1 ≤ 500 := InvC_get hI22 35 1 rfl rfl
        refine go_ifq PM7 (k := 3) (p1 := 46) (p2 := 17) (L' := [some (.inr (.inr (some 35))), some (.inl p1), some (.inl l3_2)]) (st' := []) (w' := (SH, dt21)) rfl (c_ge (a := dt21 35 1) (b := 500) (by first | exact bnd r31 (by decide) (by decide) | exact ⟨by fail, by fail⟩) ⟨by decide, by decide⟩) (fun c32 => ?_) (fun c32 => ?_)
        · skip
          refine go_retq PM7 (k := 0) (r := none) (w1 := (SH, dt21)) rfl ?_
          exact ⟨dt21, rfl, hI22, hF23, ⟨rfl, ⟨by first | exact True.intro | with_reducible assumption | rfl | omega | trivial, by first | exact qF | assumption, by first | exact True.intro | with_reducible assumption | rfl | fail | trivial, by first | exact True.intro | with_reducible assumption | rfl | fail | trivial⟩⟩⟩
        · skip
          have r33 : -2147483648 ≤ am_shr p1 l3_2 ∧ am_shr p1 l3_2 ≤ 2147483647 := am_shr_R
          have r34 := i2b_R (am_shr p1 l3_2)
          refine go_toq PM7 (k := 8) (pc' := 29) (L' := [some (.inr (.inr (some 35))), some (.inl p1), some (.inl l3_2)]) (st' := [.inl (am_i2b (am_shr p1 l3_2)), .inl (dt21 35 1), .inr (.inr (some 36))]) (w' := (SH, dt21)) rfl ?_
          have r35 := i2b_R (am_i2b (am_shr p1 l3_2))
          have hI36 : InvC (u2 dt21 36 ((dt21 35 1).toNat) (am_i2b (am_i2b (am_shr p1 l3_2)))) := InvC_u2 hI22 (lo := -128) (hi := 127) rfl rfl rfl (by omega) (by omega)
          have hF37 : Fr [35, 36] dt (u2 dt21 36 ((dt21 35 1).toNat) (am_i2b (am_i2b (am_shr p1 l3_2)))) := Fr_u2 hF23 (by decide)
          have w38 : (u2 dt21 36 ((dt21 35 1).toNat) (am_i2b (am_i2b (am_shr p1 l3_2)))) 35 1 = dt21 35 1 := rfl
          have w39 : (u2 dt21 36 ((dt21 35 1).toNat) (am_i2b (am_i2b (am_shr p1 l3_2)))) 35 2 = dt21 35 2 := rfl
          have w40 : (u2 dt21 36 ((dt21 35 1).toNat) (am_i2b (am_i2b (am_shr p1 l3_2)))) 35 3 = dt21 35 3 := rfl
          have k41 : ∀ j : Nat, ¬ (j : Int) = dt21 35 1 → am_and ((u2 dt21 36 ((dt21 35 1).toNat) (am_i2b (am_i2b (am_shr p1 l3_2)))) 36 j) 255 = am_and (dt21 36 j) 255 := fun j hj => by rw [u2_ne (by omega)]
          have k42 : (u2 dt21 36 ((dt21 35 1).toNat) (am_i2b (am_i2b (am_shr p1 l3_2)))) 36 (dt21 35 1).toNat = am_i2b (am_i2b (am_shr p1 l3_2)) := u2_eq
          refine go_smpq PM7 (L' := [some (.inr (.inr (some 35))), some (.inl p1), some (.inl l3_2)]) (st' := []) (w' := (SH, (u2 dt21 36 ((dt21 35 1).toNat) (am_i2b (am_i2b (am_shr p1 l3_2)))))) rfl rfl (s_bast (n := 500) rfl (by first | exact bndc r31 c32 (by decide) (by decide) | exact bndx r31 (by decide) (by decide) | exact ⟨by fail, by fail⟩)) ?_
          refine go_toq PM7 (k := 5) (pc' := 37) (L' := [some (.inr (.inr (some 35))), some (.inl p1), some (.inl l3_2)]) (st' := [.inl ((dt21 35 1) + 1), .inr (.inr (some 35))]) (w' := (SH, (u2 dt21 36 ((dt21 35 1).toNat) (am_i2b (am_i2b (am_shr p1 l3_2)))))) rfl ?_
          have hI43 : InvC (u2 (u2 dt21 36 ((dt21 35 1).toNat) (am_i2b (am_i2b (am_shr p1 l3_2)))) 35 1 ((dt21 35 1) + 1)) := InvC_u2 hI36 (lo := 0) (hi := 500) rfl rfl rfl (by omega) (by omega)
          have hF44 : Fr [35, 36] dt (u2 (u2 dt21 36 ((dt21 35 1).toNat) (am_i2b (am_i2b (am_shr p1 l3_2)))) 35 1 ((dt21 35 1) + 1)) := Fr_u2 hF37 (by decide)
          have w45 : (u2 (u2 dt21 36 ((dt21 35 1).toNat) (am_i2b (am_i2b (am_shr p1 l3_2)))) 35 1 ((dt21 35 1) + 1)) 35 1 = (dt21 35 1) + 1 := rfl
          have w46 : (u2 (u2 dt21 36 ((dt21 35 1).toNat) (am_i2b (am_i2b (am_shr p1 l3_2)))) 35 1 ((dt21 35 1) + 1)) 35 2 = (u2 dt21 36 ((dt21 35 1).toNat) (am_i2b (am_i2b (am_shr p1 l3_2)))) 35 2 := rfl
          have w47 : (u2 (u2 dt21 36 ((dt21 35 1).toNat) (am_i2b (am_i2b (am_shr p1 l3_2)))) 35 1 ((dt21 35 1) + 1)) 35 3 = (u2 dt21 36 ((dt21 35 1).toNat) (am_i2b (am_i2b (am_shr p1 l3_2)))) 35 3 := rfl
          refine go_smpq PM7 (L' := [some (.inr (.inr (some 35))), some (.inl p1), some (.inl l3_2)]) (st' := []) (w' := (SH, (u2 (u2 dt21 36 ((dt21 35 1).toNat) (am_i2b (am_i2b (am_shr p1 l3_2)))) 35 1 ((dt21 35 1) + 1)))) rfl rfl (s_pf rfl rfl rfl rfl (by first | exact bndp r31 (by decide) (by decide) | exact ⟨by fail, by fail⟩)) ?_
          refine go_toq PM7 (k := 2) (pc' := 3) (L' := [some (.inr (.inr (some 35))), some (.inl p1), some (.inl (l3_2 + (-8)))]) (st' := []) (w' := (SH, (u2 (u2 dt21 36 ((dt21 35 1).toNat) (am_i2b (am_i2b (am_shr p1 l3_2)))) 35 1 ((dt21 35 1) + 1)))) rfl ?_
          exact GO.le (ih_loop29 (l3_2 + (-8)) (u2 (u2 dt21 36 ((dt21 35 1).toNat) (am_i2b (am_i2b (am_shr p1 l3_2)))) 35 1 ((dt21 35 1) + 1)) hI43 hF44 (by first | with_reducible assumption | omega | exact FDX_0 | exact FDX_s qF (by fail) (by fail) (fun j hj => k41 j hj) (congrArg (fun z_ => am_and z_ 255) k42) (BYT_c rfl (by fail) (by fail) (by fail)) (by fail)) (by first | with_reducible assumption | omega | exact FDX_0 | exact FDX_s qF (by fail) (by fail) (fun j hj => k41 j hj) (congrArg (fun z_ => am_and z_ 255) k42) (BYT_c rfl (by fail) (by fail) (by fail)) (by fail)) (by first | with_reducible assumption | fail | exact FDX_0 | exact FDX_s qF (by omega) (by omega) (fun j hj => k41 j hj) (congrArg (fun z_ => am_and z_ 255) k42) (BYT_c rfl (by omega) (by omega) (by omega)) (by omega)) (by first | with_reducible assumption | omega | exact FDX_0 | exact FDX_s qF (by fail) (by fail) (fun j hj => k41 j hj) (congrArg (fun z_ => am_and z_ 255) k42) (BYT_c rfl (by fail) (by fail) (by fail)) (by fail)) (by first | with_reducible assumption | omega | exact FDX_0 | exact FDX_s qF (by fail) (by fail) (fun j hj => k41 j hj) (congrArg (fun z_ => am_and z_ 255) k42) (BYT_c rfl (by fail) (by fail) (by fail)) (by fail)) (by omega)) ⟨.inl rfl, .inl rfl, .inl rfl, trivial⟩
  exact GO.le (loop29 _ 24 dt hI hF (by first | with_reducible assumption | omega | exact FDX_0 | exact FDX_s qF (by fail) (by fail) (fun j hj => hI j hj) (congrArg (fun z_ => am_and z_ 255) hI) (BYT_c rfl (by fail) (by fail) (by fail)) (by fail)) (by first | with_reducible assumption | omega | exact FDX_0 | exact FDX_s qF (by fail) (by fail) (fun j hj => hI j hj) (congrArg (fun z_ => am_and z_ 255) hI) (BYT_c rfl (by fail) (by fail) (by fail)) (by fail)) (by first | with_reducible assumption | fail | exact FDX_0 | exact FDX_s qF (by fail) (by fail) (fun j hj => hI j hj) (congrArg (fun z_ => am_and z_ 255) hI) (BYT_c rfl (by fail) (by fail) (by fail)) (by fail)) (by first | with_reducible assumption | omega | exact FDX_0 | exact FDX_s qF (by fail) (by fail) (fun j hj => hI j hj) (congrArg (fun z_ => am_and z_ 255) hI) (BYT_c rfl (by fail) (by fail) (by fail)) (by fail)) (by first | with_reducible assumption | omega | exact FDX_0 | exact FDX_s qF (by fail) (by fail) (fun j hj => hI j hj) (congrArg (fun z_ => am_and z_ 255) hI) (BYT_c rfl (by fail) (by fail) (by fail)) (by fail)) (Nat.lt_succ_self _)) ⟨.inl rfl, .inl rfl, .inl rfl, trivial⟩
theorem sp_X5_feed_f (L : Nat) (xs : Nat → Int32) (sio : Option Nat) (d : Nat) (dt : Nat → Nat → Int) (hI : InvC dt)  (p1 : Int) (h_p1 : (-2147483648) ≤ p1 ∧ p1 ≤ 2147483647) (p2 : Int) (h_p2 : (-2147483648) ≤ p2 ∧ p2 ≤ 2147483647) (p3 : Int) (h_p3 : (-2147483648) ≤ p3 ∧ p3 ≤ 2147483647) (p4 : Int) (h_p4 : (-2147483648) ≤ p4 ∧ p4 ≤ 2147483647) (p5 : Int) (h_p5 : (-2147483648) ≤ p5 ∧ p5 ≤ 2147483647)  : GO (am_XX L xs sio) (d + 1) 68 0 [some (.inr (.inr (some 0))), some (.inl p1), some (.inl p2), some (.inl p3), some (.inl p4), some (.inl p5)] [] (SH, dt) (fun r w2 => ∃ dt2 : Nat → Nat → Int, w2 = (SH, dt2) ∧ InvC dt2 ∧ Fr [35, 36] dt dt2 ∧ ((r = some (.inl (-1)) ∧ (¬ (dt 35 1 + 20 ≤ 500)) ∧ (dt2 35 1 = dt 35 1) ∧ (∀ j : Nat, dt2 36 j = dt 36 j) ∧ (dt2 35 2 = dt 35 2) ∧ (dt2 35 3 = dt 35 3)) ∨ (∃ v : Int, r = some (.inl v) ∧ ((-2147483648) ≤ v ∧ v ≤ 2147483647) ∧ (v = dt 35 1 + 20) ∧ (dt 35 1 + 20 ≤ 500) ∧ (dt2 35 1 = dt 35 1 + 20) ∧ (FDX (fun j => am_and (dt 36 j) 255) (fun j => am_and (dt2 36 j) 255) (dt 35 1) (dt2 35 1) (FBY p1 p2 p3 p4 p5)) ∧ (dt2 35 2 = dt 35 2) ∧ (dt2 35 3 = dt 35 3)))) := by
  have hF : Fr [35, 36] dt dt := Fr_refl
  have r1 : 0 ≤ dt 35 1 ∧ dt 35 1 ≤ 500 := InvC_get hI 35 1 rfl rfl
  refine go_toq PM68 (k := 3) (pc' := 6) (L' := [some (.inr (.inr (some 0))), some (.inl p1), some (.inl p2), some (.inl p3), some (.inl p4), some (.inl p5)]) (st' := [.inl 20, .inr (.inr (some 35))]) (w' := (SH, dt)) rfl ?_
  refine go_callq PM68 PM6 (Q' := _) rfl rfl rfl rfl (sp_X1_hasRoom L xs sio (d + 0) dt hI  20 ⟨by decide, by decide⟩ ) ?_
  rintro _ _ ⟨rfl, h2⟩
  refine ⟨rfl, ?_⟩
  rcases h2 with ⟨rfl, h2⟩ | ⟨rfl, h2⟩
  · skip
    refine go_toq PM68 (k := 4) (pc' := 19) (L' := [some (.inr (.inr (some 0))), some (.inl p1), some (.inl p2), some (.inl p3), some (.inl p4), some (.inl p5)]) (st' := [.inl p1, .inr (.inr (some 35))]) (w' := (SH, dt)) rfl ?_
    refine go_callq PM68 PM7 (Q' := _) rfl rfl rfl rfl (sp_X1_take_f L xs sio (d + 0) dt hI  p1 (by first | exact h_p1 | exact bnd h_p1 (by decide) (by decide) | exact ⟨by fail, by fail⟩) (by first | exact True.intro | with_reducible assumption | rfl | omega | trivial)) ?_
    rintro _ _ ⟨dt4, rfl, hI5, hF6, h3⟩
    refine ⟨rfl, ?_⟩
    have hF7 : Fr [35, 36] dt dt4 := Fr_tr hF hF6 (by decide)
    rcases h3 with ⟨rfl, h3⟩
    obtain ⟨h3_0, h3_1, h3_2, h3_3⟩ := h3
    refine go_toq PM68 (k := 3) (pc' := 27) (L' := [some (.inr (.inr (some 0))), some (.inl p1), some (.inl p2), some (.inl p3), some (.inl p4), some (.inl p5)]) (st' := [.inl p2, .inr (.inr (some 35))]) (w' := (SH, dt4)) rfl ?_
    refine go_callq PM68 PM7 (Q' := _) rfl rfl rfl rfl (sp_X1_take_f L xs sio (d + 0) dt4 hI5  p2 (by first | exact h_p2 | exact bnd h_p2 (by decide) (by decide) | exact ⟨by fail, by fail⟩) (by first | exact True.intro | with_reducible assumption | rfl | omega | trivial)) ?_
    rintro _ _ ⟨dt9, rfl, hI10, hF11, h8⟩
    refine ⟨rfl, ?_⟩
    have hF12 : Fr [35, 36] dt dt9 := Fr_tr hF7 hF11 (by decide)
    rcases h8 with ⟨rfl, h8⟩
    obtain ⟨h8_0, h8_1, h8_2, h8_3⟩ := h8
    refine go_toq PM68 (k := 3) (pc' := 35) (L' := [some (.inr (.inr (some 0))), some (.inl p1), some (.inl p2), some (.inl p3), some (.inl p4), some (.inl p5)]) (st' := [.inl p3, .inr (.inr (some 35))]) (w' := (SH, dt9)) rfl ?_
    refine go_callq PM68 PM7 (Q' := _) rfl rfl rfl rfl (sp_X1_take_f L xs sio (d + 0) dt9 hI10  p3 (by first | exact h_p3 | exact bnd h_p3 (by decide) (by decide) | exact ⟨by fail, by fail⟩) (by first | exact True.intro | with_reducible assumption | rfl | omega | trivial)) ?_
    rintro _ _ ⟨dt14, rfl, hI15, hF16, h13⟩
    refine ⟨rfl, ?_⟩
    have hF17 : Fr [35, 36] dt dt14 := Fr_tr hF12 hF16 (by decide)
    rcases h13 with ⟨rfl, h13⟩
    obtain ⟨h13_0, h13_1, h13_2, h13_3⟩ := h13
    refine go_toq PM68 (k := 3) (pc' := 44) (L' := [some (.inr (.inr (some 0))), some (.inl p1), some (.inl p2), some (.inl p3), some (.inl p4), some (.inl p5)]) (st' := [.inl p4, .inr (.inr (some 35))]) (w' := (SH, dt14)) rfl ?_
    refine go_callq PM68 PM7 (Q' := _) rfl rfl rfl rfl (sp_X1_take_f L xs sio (d + 0) dt14 hI15  p4 (by first | exact h_p4 | exact bnd h_p4 (by decide) (by decide) | exact ⟨by fail, by fail⟩) (by first | exact True.intro | with_reducible assumption | rfl | omega | trivial)) ?_
    rintro _ _ ⟨dt19, rfl, hI20, hF21, h18⟩
    refine ⟨rfl, ?_⟩
    have hF22 : Fr [35, 36] dt dt19 := Fr_tr hF17 hF21 (by decide)
    rcases h18 with ⟨rfl, h18⟩
    obtain ⟨h18_0, h18_1, h18_2, h18_3⟩ := h18
    refine go_toq PM68 (k := 3) (pc' := 53) (L' := [some (.inr (.inr (some 0))), some (.inl p1), some (.inl p2), some (.inl p3), some (.inl p4), some (.inl p5)]) (st' := [.inl p5, .inr (.inr (some 35))]) (w' := (SH, dt19)) rfl ?_
    refine go_callq PM68 PM7 (Q' := _) rfl rfl rfl rfl (sp_X1_take_f L xs sio (d + 0) dt19 hI20  p5 (by first | exact h_p5 | exact bnd h_p5 (by decide) (by decide) | exact ⟨by fail, by fail⟩) (by first | exact True.intro | with_reducible assumption | rfl | omega | trivial)) ?_
    rintro _ _ ⟨dt24, rfl, hI25, hF26, h23⟩
    refine ⟨rfl, ?_⟩
    have hF27 : Fr [35, 36] dt dt24 := Fr_tr hF22 hF26 (by decide)
    rcases h23 with ⟨rfl, h23⟩
    obtain ⟨h23_0, h23_1, h23_2, h23_3⟩ := h23
    have r28 : 0 ≤ dt24 35 1 ∧ dt24 35 1 ≤ 500 := InvC_get hI25 35 1 rfl rfl
    refine go_retq PM68 (k := 3) (r := some (.inl (dt24 35 1))) (w1 := (SH, dt24)) rfl ?_
    exact ⟨dt24, rfl, hI25, hF27, (Or.inr ⟨_, rfl, (by first | exact bnd r28 (by decide) (by decide) | exact ⟨by fail, by fail⟩), ⟨by first | exact True.intro | with_reducible assumption | rfl | omega | trivial, by first | exact True.intro | with_reducible assumption | rfl | fail | trivial, by first | exact True.intro | with_reducible assumption | rfl | omega | trivial, by exact FDX_5 h3_1 h8_1 h13_1 h18_1 h23_1 (by omega) (by omega) (by omega) (by omega) (by omega), by first | exact True.intro | with_reducible assumption | rfl | omega | trivial, by first | exact True.intro | with_reducible assumption | rfl | omega | trivial⟩⟩)⟩
  · skip
    refine go_retq PM68 (k := 2) (r := some (.inl (-1))) (w1 := (SH, dt)) rfl ?_
    first | exact ⟨dt, rfl, hI, hF, (Or.inl ⟨rfl, ⟨by first | exact True.intro | with_reducible assumption | rfl | fail | trivial, by first | exact True.intro | with_reducible assumption | rfl | fail | trivial, by exact fun _ => rfl, by first | exact True.intro | with_reducible assumption | rfl | fail | trivial, by first | exact True.intro | with_reducible assumption | rfl | fail | trivial⟩⟩)⟩ | exact ⟨dt, rfl, hI, hF, (Or.inr ⟨_, rfl, ⟨by decide, by decide⟩, ⟨by first | exact True.intro | with_reducible assumption | rfl | fail | trivial, by first | exact True.intro | with_reducible assumption | rfl | fail | trivial, by first | exact True.intro | with_reducible assumption | rfl | fail | trivial, by exact FDX_5 hI hI hI hI hI (by fail) (by fail) (by fail) (by fail) (by fail), by first | exact True.intro | with_reducible assumption | rfl | fail | trivial, by first | exact True.intro | with_reducible assumption | rfl | fail | trivial⟩⟩)⟩
set_option maxRecDepth 20000 in
theorem sp_X6_feed_f (L : Nat) (xs : Nat → Int32) (sio : Option Nat) (d : Nat) (dt : Nat → Nat → Int) (hI : InvC dt)  (p1 : Int) (h_p1 : (-2147483648) ≤ p1 ∧ p1 ≤ 2147483647) (p2 : Int) (h_p2 : (-2147483648) ≤ p2 ∧ p2 ≤ 2147483647) (p3 : Int) (h_p3 : (-2147483648) ≤ p3 ∧ p3 ≤ 2147483647) (p4 : Int) (h_p4 : (-2147483648) ≤ p4 ∧ p4 ≤ 2147483647) (p5 : Int) (h_p5 : (-2147483648) ≤ p5 ∧ p5 ≤ 2147483647)  : GO (am_XX L xs sio) (d) 151 0 [some (.inr (.inr (some 79))), some (.inl p1), some (.inl p2), some (.inl p3), some (.inl p4), some (.inl p5), none, none] [] (SH, dt) (fun r w2 => ∃ dt2 : Nat → Nat → Int, w2 = (SH, dt2) ∧ InvC dt2 ∧ Fr [79, 85] dt dt2 ∧ ((r = some (.inl (-1)) ∧ (¬ (dt 79 12 + 20 ≤ 500)) ∧ (dt2 79 12 = dt 79 12) ∧ (∀ j : Nat, dt2 85 j = dt 85 j) ∧ (dt2 79 2 = dt 79 2) ∧ (dt2 79 19 = dt 79 19) ∧ (dt2 79 21 = dt 79 21)) ∨ (∃ v : Int, r = some (.inl v) ∧ ((-2147483648) ≤ v ∧ v ≤ 2147483647) ∧ (v = dt 79 12 + 20) ∧ (dt 79 12 + 20 ≤ 500) ∧ (dt2 79 12 = dt 79 12 + 20) ∧ (FDX (dt 85) (dt2 85) (dt 79 12) (dt2 79 12) (FBY p1 p2 p3 p4 p5)) ∧ (dt2 79 2 = dt 79 2) ∧ (dt2 79 19 = dt 79 19) ∧ (dt2 79 21 = dt 79 21)))) := by
  have hF : Fr [79, 85] dt dt := Fr_refl
  have r1 : 0 ≤ dt 79 12 ∧ dt 79 12 ≤ 500 := InvC_get hI 79 12 rfl rfl
  refine go_ifq PM151 (k := 5) (p1 := 15) (p2 := 13) (L' := [some (.inr (.inr (some 79))), some (.inl p1), some (.inl p2), some (.inl p3), some (.inl p4), some (.inl p5), none, none]) (st' := []) (w' := (SH, dt)) rfl (c_le (a := (dt 79 12) + 20) (b := 500) (by first | exact bndp r1 (by decide) (by decide) | exact ⟨by fail, by fail⟩) ⟨by decide, by decide⟩) (fun c2 => ?_) (fun c2 => ?_)
  · skip
    refine go_toq PM151 (k := 2) (pc' := 18) (L' := [some (.inr (.inr (some 79))), some (.inl p1), some (.inl p2), some (.inl p3), some (.inl p4), some (.inl p5), some (.inl 0), none]) (st' := []) (w' := (SH, dt)) rfl ?_
    have loop103 : ∀ (k_ : Nat) (l18_6 : Int) (dt94 : Nat → Nat → Int) (hI95 : InvC dt94) (hF96 : Fr [79, 85] dt dt94) (i97 : 0 ≤ l18_6 ∧ l18_6 ≤ 20) (i98 : dt94 79 12 = dt 79 12 + l18_6) (i99 : FDX (dt 85) (dt94 85) (dt 79 12) (dt94 79 12) (FBY p1 p2 p3 p4 p5)) (i100 : dt94 79 2 = dt 79 2) (i101 : dt94 79 19 = dt 79 19) (i102 : dt94 79 21 = dt 79 21), (21 - l18_6).toNat < k_ → GO (am_XX L xs sio) (d) 151 18 [some (.inr (.inr (some 79))), some (.inl p1), some (.inl p2), some (.inl p3), some (.inl p4), some (.inl p5), some (.inl l18_6), none] [] (SH, dt94) (fun r w2 => ∃ dt2 : Nat → Nat → Int, w2 = (SH, dt2) ∧ InvC dt2 ∧ Fr [79, 85] dt dt2 ∧ ((r = some (.inl (-1)) ∧ (¬ (dt 79 12 + 20 ≤ 500)) ∧ (dt2 79 12 = dt 79 12) ∧ (∀ j : Nat, dt2 85 j = dt 85 j) ∧ (dt2 79 2 = dt 79 2) ∧ (dt2 79 19 = dt 79 19) ∧ (dt2 79 21 = dt 79 21)) ∨ (∃ v : Int, r = some (.inl v) ∧ ((-2147483648) ≤ v ∧ v ≤ 2147483647) ∧ (v = dt 79 12 + 20) ∧ (dt 79 12 + 20 ≤ 500) ∧ (dt2 79 12 = dt 79 12 + 20) ∧ (FDX (dt 85) (dt2 85) (dt 79 12) (dt2 79 12) (FBY p1 p2 p3 p4 p5)) ∧ (dt2 79 2 = dt 79 2) ∧ (dt2 79 19 = dt 79 19) ∧ (dt2 79 21 = dt 79 21)))) := by
      intro k_
      induction k_ with
      | zero => intro l18_6 dt94 hI95 hF96 i97 i98 i99 i100 i101 i102 hm; exact absurd hm (Nat.not_lt_zero _)
      | succ k_ ih_loop103 =>
        intro l18_6 dt94 hI95 hF96 i97 i98 i99 i100 i101 i102 hm
        have qF := i99
        refine go_ifq PM151 (k := 2) (p1 := 115) (p2 := 25) (L' := [some (.inr (.inr (some 79))), some (.inl p1), some (.inl p2), some (.inl p3), some (.inl p4), some (.inl p5), some (.inl l18_6), none]) (st' := []) (w' := (SH, dt94)) rfl (c_ge (a := l18_6) (b := 20) (by first | exact bnd i97 (by decide) (by decide) | exact ⟨by fail, by fail⟩) ⟨by decide, by decide⟩) (fun c104 => ?_) (fun c104 => ?_)
        · skip
          have r105 : 0 ≤ dt94 79 12 ∧ dt94 79 12 ≤ 500 := InvC_get hI95 79 12 rfl rfl
          refine go_retq PM151 (k := 2) (r := some (.inl (dt94 79 12))) (w1 := (SH, dt94)) rfl ?_
          exact ⟨dt94, rfl, hI95, hF96, (Or.inr ⟨_, rfl, (by first | exact bnd r105 (by decide) (by decide) | exact ⟨by fail, by fail⟩), ⟨by first | exact True.intro | with_reducible assumption | rfl | omega | trivial, by first | exact True.intro | with_reducible assumption | rfl | fail | trivial, by first | exact True.intro | with_reducible assumption | rfl | omega | trivial, by exact qF, by first | exact True.intro | with_reducible assumption | rfl | fail | trivial, by first | exact True.intro | with_reducible assumption | rfl | fail | trivial, by first | exact True.intro | with_reducible assumption | rfl | fail | trivial⟩⟩)⟩
        · skip
          refine go_ifq PM151 (k := 2) (p1 := 35) (p2 := 31) (L' := [some (.inr (.inr (some 79))), some (.inl p1), some (.inl p2), some (.inl p3), some (.inl p4), some (.inl p5), some (.inl l18_6), none]) (st' := []) (w' := (SH, dt94)) rfl (c_ge (a := l18_6) (b := 4) (by first | exact bnd i97 (by decide) (by decide) | exact bndd i97 c104 (by decide) (by decide) | exact ⟨by fail, by fail⟩) ⟨by decide, by decide⟩) (fun c106 => ?_) (fun c106 => ?_)
          · skip
            refine go_ifq PM151 (k := 2) (p1 := 46) (p2 := 42) (L' := [some (.inr (.inr (some 79))), some (.inl p1), some (.inl p2), some (.inl p3), some (.inl p4), some (.inl p5), some (.inl l18_6), none]) (st' := []) (w' := (SH, dt94)) rfl (c_ge (a := l18_6) (b := 8) (by first | exact bnd i97 (by decide) (by decide) | exact bndd i97 c104 (by decide) (by decide) | exact ⟨by fail, by fail⟩) ⟨by decide, by decide⟩) (fun c107 => ?_) (fun c107 => ?_)
            · skip
              refine go_ifq PM151 (k := 2) (p1 := 57) (p2 := 53) (L' := [some (.inr (.inr (some 79))), some (.inl p1), some (.inl p2), some (.inl p3), some (.inl p4), some (.inl p5), some (.inl l18_6), none]) (st' := []) (w' := (SH, dt94)) rfl (c_ge (a := l18_6) (b := 12) (by first | exact bnd i97 (by decide) (by decide) | exact bndd i97 c104 (by decide) (by decide) | exact ⟨by fail, by fail⟩) ⟨by decide, by decide⟩) (fun c108 => ?_) (fun c108 => ?_)
              · skip
                refine go_ifq PM151 (k := 2) (p1 := 69) (p2 := 64) (L' := [some (.inr (.inr (some 79))), some (.inl p1), some (.inl p2), some (.inl p3), some (.inl p4), some (.inl p5), some (.inl l18_6), none]) (st' := []) (w' := (SH, dt94)) rfl (c_ge (a := l18_6) (b := 16) (by first | exact bnd i97 (by decide) (by decide) | exact bndd i97 c104 (by decide) (by decide) | exact ⟨by fail, by fail⟩) ⟨by decide, by decide⟩) (fun c109 => ?_) (fun c109 => ?_)
                · skip
                  have r110 : 0 ≤ dt94 79 12 ∧ dt94 79 12 ≤ 500 := InvC_get hI95 79 12 rfl rfl
                  refine go_toq PM151 (k := 11) (pc' := 90) (L' := [some (.inr (.inr (some 79))), some (.inl p1), some (.inl p2), some (.inl p3), some (.inl p4), some (.inl p5), some (.inl l18_6), some (.inl p5)]) (st' := [.inl 4, .inl l18_6, .inl 8, .inl 24, .inl p5, .inl (dt94 79 12), .inr (.inr (some 85))]) (w' := (SH, dt94)) rfl ?_
                  refine go_smpq PM151 (L' := [some (.inr (.inr (some 79))), some (.inl p1), some (.inl p2), some (.inl p3), some (.inl p4), some (.inl p5), some (.inl l18_6), some (.inl p5)]) (st' := [.inl (l18_6 % 4), .inl 8, .inl 24, .inl p5, .inl (dt94 79 12), .inr (.inr (some 85))]) (w' := (SH, dt94)) rfl rfl (s_iremc ⟨by omega, by omega⟩ ⟨by omega, by omega⟩) ?_
                  have r111 : -2147483648 ≤ am_shr p5 (24 - (8 * (l18_6 % 4))) ∧ am_shr p5 (24 - (8 * (l18_6 % 4))) ≤ 2147483647 := am_shr_R
                  have r112 : 0 ≤ am_and (am_shr p5 (24 - (8 * (l18_6 % 4)))) 255 ∧ am_and (am_shr p5 (24 - (8 * (l18_6 % 4)))) 255 ≤ 255 := and_R255
                  refine go_toq PM151 (k := 5) (pc' := 98) (L' := [some (.inr (.inr (some 79))), some (.inl p1), some (.inl p2), some (.inl p3), some (.inl p4), some (.inl p5), some (.inl l18_6), some (.inl p5)]) (st' := [.inl (am_and (am_shr p5 (24 - (8 * (l18_6 % 4)))) 255), .inl (dt94 79 12), .inr (.inr (some 85))]) (w' := (SH, dt94)) rfl ?_
                  have hI113 : InvC (u2 dt94 85 ((dt94 79 12).toNat) (am_and (am_shr p5 (24 - (8 * (l18_6 % 4)))) 255)) := InvC_u2 hI95 (lo := 0) (hi := 255) rfl rfl rfl (by first | exact bnd1 r112 (by decide) | fail) (by first | exact bnd2 r112 (by decide) | fail)
                  have hF114 : Fr [79, 85] dt (u2 dt94 85 ((dt94 79 12).toNat) (am_and (am_shr p5 (24 - (8 * (l18_6 % 4)))) 255)) := Fr_u2 hF96 (by decide)
                  have w115 : (u2 dt94 85 ((dt94 79 12).toNat) (am_and (am_shr p5 (24 - (8 * (l18_6 % 4)))) 255)) 79 12 = dt94 79 12 := rfl
                  have w116 : (u2 dt94 85 ((dt94 79 12).toNat) (am_and (am_shr p5 (24 - (8 * (l18_6 % 4)))) 255)) 79 2 = dt94 79 2 := rfl
                  have w117 : (u2 dt94 85 ((dt94 79 12).toNat) (am_and (am_shr p5 (24 - (8 * (l18_6 % 4)))) 255)) 79 19 = dt94 79 19 := rfl
                  have w118 : (u2 dt94 85 ((dt94 79 12).toNat) (am_and (am_shr p5 (24 - (8 * (l18_6 % 4)))) 255)) 79 21 = dt94 79 21 := rfl
                  have k119 : ∀ j : Nat, ¬ (j : Int) = dt94 79 12 → (u2 dt94 85 ((dt94 79 12).toNat) (am_and (am_shr p5 (24 - (8 * (l18_6 % 4)))) 255)) 85 j = dt94 85 j := fun j hj => u2_ne (by omega)
                  have k120 : (u2 dt94 85 ((dt94 79 12).toNat) (am_and (am_shr p5 (24 - (8 * (l18_6 % 4)))) 255)) 85 (dt94 79 12).toNat = am_and (am_shr p5 (24 - (8 * (l18_6 % 4)))) 255 := u2_eq
                  refine go_smpq PM151 (L' := [some (.inr (.inr (some 79))), some (.inl p1), some (.inl p2), some (.inl p3), some (.inl p4), some (.inl p5), some (.inl l18_6), some (.inl p5)]) (st' := []) (w' := (SH, (u2 dt94 85 ((dt94 79 12).toNat) (am_and (am_shr p5 (24 - (8 * (l18_6 % 4)))) 255)))) rfl rfl (s_iast (n := 500) rfl (by first | exact bndx r110 (by decide) (by decide) | exact ⟨by omega, by omega⟩) (by first | exact bnd r112 (by decide) (by decide) | exact ⟨by fail, by fail⟩)) ?_
                  refine go_toq PM151 (k := 5) (pc' := 106) (L' := [some (.inr (.inr (some 79))), some (.inl p1), some (.inl p2), some (.inl p3), some (.inl p4), some (.inl p5), some (.inl l18_6), some (.inl p5)]) (st' := [.inl ((dt94 79 12) + 1), .inr (.inr (some 79))]) (w' := (SH, (u2 dt94 85 ((dt94 79 12).toNat) (am_and (am_shr p5 (24 - (8 * (l18_6 % 4)))) 255)))) rfl ?_
                  have hI121 : InvC (u2 (u2 dt94 85 ((dt94 79 12).toNat) (am_and (am_shr p5 (24 - (8 * (l18_6 % 4)))) 255)) 79 12 ((dt94 79 12) + 1)) := InvC_u2 hI113 (lo := 0) (hi := 500) rfl rfl rfl (by omega) (by omega)
                  have hF122 : Fr [79, 85] dt (u2 (u2 dt94 85 ((dt94 79 12).toNat) (am_and (am_shr p5 (24 - (8 * (l18_6 % 4)))) 255)) 79 12 ((dt94 79 12) + 1)) := Fr_u2 hF114 (by decide)
                  have w123 : (u2 (u2 dt94 85 ((dt94 79 12).toNat) (am_and (am_shr p5 (24 - (8 * (l18_6 % 4)))) 255)) 79 12 ((dt94 79 12) + 1)) 79 12 = (dt94 79 12) + 1 := rfl
                  have w124 : (u2 (u2 dt94 85 ((dt94 79 12).toNat) (am_and (am_shr p5 (24 - (8 * (l18_6 % 4)))) 255)) 79 12 ((dt94 79 12) + 1)) 79 2 = (u2 dt94 85 ((dt94 79 12).toNat) (am_and (am_shr p5 (24 - (8 * (l18_6 % 4)))) 255)) 79 2 := rfl
                  have w125 : (u2 (u2 dt94 85 ((dt94 79 12).toNat) (am_and (am_shr p5 (24 - (8 * (l18_6 % 4)))) 255)) 79 12 ((dt94 79 12) + 1)) 79 19 = (u2 dt94 85 ((dt94 79 12).toNat) (am_and (am_shr p5 (24 - (8 * (l18_6 % 4)))) 255)) 79 19 := rfl
                  have w126 : (u2 (u2 dt94 85 ((dt94 79 12).toNat) (am_and (am_shr p5 (24 - (8 * (l18_6 % 4)))) 255)) 79 12 ((dt94 79 12) + 1)) 79 21 = (u2 dt94 85 ((dt94 79 12).toNat) (am_and (am_shr p5 (24 - (8 * (l18_6 % 4)))) 255)) 79 21 := rfl
                  refine go_smpq PM151 (L' := [some (.inr (.inr (some 79))), some (.inl p1), some (.inl p2), some (.inl p3), some (.inl p4), some (.inl p5), some (.inl l18_6), some (.inl p5)]) (st' := []) (w' := (SH, (u2 (u2 dt94 85 ((dt94 79 12).toNat) (am_and (am_shr p5 (24 - (8 * (l18_6 % 4)))) 255)) 79 12 ((dt94 79 12) + 1)))) rfl rfl (s_pf rfl rfl rfl rfl (by first | exact bndp r110 (by decide) (by decide) | exact ⟨by fail, by fail⟩)) ?_
                  refine go_toq PM151 (k := 2) (pc' := 18) (L' := [some (.inr (.inr (some 79))), some (.inl p1), some (.inl p2), some (.inl p3), some (.inl p4), some (.inl p5), some (.inl (l18_6 + 1)), some (.inl p5)]) (st' := []) (w' := (SH, (u2 (u2 dt94 85 ((dt94 79 12).toNat) (am_and (am_shr p5 (24 - (8 * (l18_6 % 4)))) 255)) 79 12 ((dt94 79 12) + 1)))) rfl ?_
                  exact GO.le (ih_loop103 (l18_6 + 1) (u2 (u2 dt94 85 ((dt94 79 12).toNat) (am_and (am_shr p5 (24 - (8 * (l18_6 % 4)))) 255)) 79 12 ((dt94 79 12) + 1)) hI121 hF122 (by first | with_reducible assumption | omega | exact FDX_0 | exact FDX_s qF (by fail) (by fail) k119 k120 (FBY_r (l := l18_6) (n0 := dt 79 12) (m := dt94 79 12) ⟨by fail, by fail⟩ (by fail) (by fail) (by fail) (by fail)) (by fail)) (by first | with_reducible assumption | omega | exact FDX_0 | exact FDX_s qF (by fail) (by fail) k119 k120 (FBY_r (l := l18_6) (n0 := dt 79 12) (m := dt94 79 12) ⟨by fail, by fail⟩ (by fail) (by fail) (by fail) (by fail)) (by fail)) (by first | with_reducible assumption | fail | exact FDX_0 | exact FDX_s qF (by omega) (by omega) k119 k120 (FBY_r (l := l18_6) (n0 := dt 79 12) (m := dt94 79 12) ⟨by omega, by omega⟩ (by omega) (by omega) (by omega) (by omega)) (by omega)) (by first | with_reducible assumption | omega | exact FDX_0 | exact FDX_s qF (by fail) (by fail) k119 k120 (FBY_r (l := l18_6) (n0 := dt 79 12) (m := dt94 79 12) ⟨by fail, by fail⟩ (by fail) (by fail) (by fail) (by fail)) (by fail)) (by first | with_reducible assumption | omega | exact FDX_0 | exact FDX_s qF (by fail) (by fail) k119 k120 (FBY_r (l := l18_6) (n0 := dt 79 12) (m := dt94 79 12) ⟨by fail, by fail⟩ (by fail) (by fail) (by fail) (by fail)) (by fail)) (by first | with_reducible assumption | omega | exact FDX_0 | exact FDX_s qF (by fail) (by fail) k119 k120 (FBY_r (l := l18_6) (n0 := dt 79 12) (m := dt94 79 12) ⟨by fail, by fail⟩ (by fail) (by fail) (by fail) (by fail)) (by fail)) (by omega)) ⟨.inl rfl, .inl rfl, .inl rfl, .inl rfl, .inl rfl, .inl rfl, .inl rfl, .inr ⟨rfl, trivial⟩, trivial⟩
                · skip
                  have r127 : 0 ≤ dt94 79 12 ∧ dt94 79 12 ≤ 500 := InvC_get hI95 79 12 rfl rfl
                  refine go_toq PM151 (k := 12) (pc' := 90) (L' := [some (.inr (.inr (some 79))), some (.inl p1), some (.inl p2), some (.inl p3), some (.inl p4), some (.inl p5), some (.inl l18_6), some (.inl p4)]) (st' := [.inl 4, .inl l18_6, .inl 8, .inl 24, .inl p4, .inl (dt94 79 12), .inr (.inr (some 85))]) (w' := (SH, dt94)) rfl ?_
                  refine go_smpq PM151 (L' := [some (.inr (.inr (some 79))), some (.inl p1), some (.inl p2), some (.inl p3), some (.inl p4), some (.inl p5), some (.inl l18_6), some (.inl p4)]) (st' := [.inl (l18_6 % 4), .inl 8, .inl 24, .inl p4, .inl (dt94 79 12), .inr (.inr (some 85))]) (w' := (SH, dt94)) rfl rfl (s_iremc ⟨by omega, by omega⟩ ⟨by omega, by omega⟩) ?_
                  have r128 : -2147483648 ≤ am_shr p4 (24 - (8 * (l18_6 % 4))) ∧ am_shr p4 (24 - (8 * (l18_6 % 4))) ≤ 2147483647 := am_shr_R
                  have r129 : 0 ≤ am_and (am_shr p4 (24 - (8 * (l18_6 % 4)))) 255 ∧ am_and (am_shr p4 (24 - (8 * (l18_6 % 4)))) 255 ≤ 255 := and_R255
                  refine go_toq PM151 (k := 5) (pc' := 98) (L' := [some (.inr (.inr (some 79))), some (.inl p1), some (.inl p2), some (.inl p3), some (.inl p4), some (.inl p5), some (.inl l18_6), some (.inl p4)]) (st' := [.inl (am_and (am_shr p4 (24 - (8 * (l18_6 % 4)))) 255), .inl (dt94 79 12), .inr (.inr (some 85))]) (w' := (SH, dt94)) rfl ?_
                  have hI130 : InvC (u2 dt94 85 ((dt94 79 12).toNat) (am_and (am_shr p4 (24 - (8 * (l18_6 % 4)))) 255)) := InvC_u2 hI95 (lo := 0) (hi := 255) rfl rfl rfl (by first | exact bnd1 r129 (by decide) | fail) (by first | exact bnd2 r129 (by decide) | fail)
                  have hF131 : Fr [79, 85] dt (u2 dt94 85 ((dt94 79 12).toNat) (am_and (am_shr p4 (24 - (8 * (l18_6 % 4)))) 255)) := Fr_u2 hF96 (by decide)
                  have w132 : (u2 dt94 85 ((dt94 79 12).toNat) (am_and (am_shr p4 (24 - (8 * (l18_6 % 4)))) 255)) 79 12 = dt94 79 12 := rfl
                  have w133 : (u2 dt94 85 ((dt94 79 12).toNat) (am_and (am_shr p4 (24 - (8 * (l18_6 % 4)))) 255)) 79 2 = dt94 79 2 := rfl
                  have w134 : (u2 dt94 85 ((dt94 79 12).toNat) (am_and (am_shr p4 (24 - (8 * (l18_6 % 4)))) 255)) 79 19 = dt94 79 19 := rfl
                  have w135 : (u2 dt94 85 ((dt94 79 12).toNat) (am_and (am_shr p4 (24 - (8 * (l18_6 % 4)))) 255)) 79 21 = dt94 79 21 := rfl
                  have k136 : ∀ j : Nat, ¬ (j : Int) = dt94 79 12 → (u2 dt94 85 ((dt94 79 12).toNat) (am_and (am_shr p4 (24 - (8 * (l18_6 % 4)))) 255)) 85 j = dt94 85 j := fun j hj => u2_ne (by omega)
                  have k137 : (u2 dt94 85 ((dt94 79 12).toNat) (am_and (am_shr p4 (24 - (8 * (l18_6 % 4)))) 255)) 85 (dt94 79 12).toNat = am_and (am_shr p4 (24 - (8 * (l18_6 % 4)))) 255 := u2_eq
                  refine go_smpq PM151 (L' := [some (.inr (.inr (some 79))), some (.inl p1), some (.inl p2), some (.inl p3), some (.inl p4), some (.inl p5), some (.inl l18_6), some (.inl p4)]) (st' := []) (w' := (SH, (u2 dt94 85 ((dt94 79 12).toNat) (am_and (am_shr p4 (24 - (8 * (l18_6 % 4)))) 255)))) rfl rfl (s_iast (n := 500) rfl (by first | exact bndx r127 (by decide) (by decide) | exact ⟨by omega, by omega⟩) (by first | exact bnd r129 (by decide) (by decide) | exact ⟨by fail, by fail⟩)) ?_
                  refine go_toq PM151 (k := 5) (pc' := 106) (L' := [some (.inr (.inr (some 79))), some (.inl p1), some (.inl p2), some (.inl p3), some (.inl p4), some (.inl p5), some (.inl l18_6), some (.inl p4)]) (st' := [.inl ((dt94 79 12) + 1), .inr (.inr (some 79))]) (w' := (SH, (u2 dt94 85 ((dt94 79 12).toNat) (am_and (am_shr p4 (24 - (8 * (l18_6 % 4)))) 255)))) rfl ?_
                  have hI138 : InvC (u2 (u2 dt94 85 ((dt94 79 12).toNat) (am_and (am_shr p4 (24 - (8 * (l18_6 % 4)))) 255)) 79 12 ((dt94 79 12) + 1)) := InvC_u2 hI130 (lo := 0) (hi := 500) rfl rfl rfl (by omega) (by omega)
                  have hF139 : Fr [79, 85] dt (u2 (u2 dt94 85 ((dt94 79 12).toNat) (am_and (am_shr p4 (24 - (8 * (l18_6 % 4)))) 255)) 79 12 ((dt94 79 12) + 1)) := Fr_u2 hF131 (by decide)
                  have w140 : (u2 (u2 dt94 85 ((dt94 79 12).toNat) (am_and (am_shr p4 (24 - (8 * (l18_6 % 4)))) 255)) 79 12 ((dt94 79 12) + 1)) 79 12 = (dt94 79 12) + 1 := rfl
                  have w141 : (u2 (u2 dt94 85 ((dt94 79 12).toNat) (am_and (am_shr p4 (24 - (8 * (l18_6 % 4)))) 255)) 79 12 ((dt94 79 12) + 1)) 79 2 = (u2 dt94 85 ((dt94 79 12).toNat) (am_and (am_shr p4 (24 - (8 * (l18_6 % 4)))) 255)) 79 2 := rfl
                  have w142 : (u2 (u2 dt94 85 ((dt94 79 12).toNat) (am_and (am_shr p4 (24 - (8 * (l18_6 % 4)))) 255)) 79 12 ((dt94 79 12) + 1)) 79 19 = (u2 dt94 85 ((dt94 79 12).toNat) (am_and (am_shr p4 (24 - (8 * (l18_6 % 4)))) 255)) 79 19 := rfl
                  have w143 : (u2 (u2 dt94 85 ((dt94 79 12).toNat) (am_and (am_shr p4 (24 - (8 * (l18_6 % 4)))) 255)) 79 12 ((dt94 79 12) + 1)) 79 21 = (u2 dt94 85 ((dt94 79 12).toNat) (am_and (am_shr p4 (24 - (8 * (l18_6 % 4)))) 255)) 79 21 := rfl
                  refine go_smpq PM151 (L' := [some (.inr (.inr (some 79))), some (.inl p1), some (.inl p2), some (.inl p3), some (.inl p4), some (.inl p5), some (.inl l18_6), some (.inl p4)]) (st' := []) (w' := (SH, (u2 (u2 dt94 85 ((dt94 79 12).toNat) (am_and (am_shr p4 (24 - (8 * (l18_6 % 4)))) 255)) 79 12 ((dt94 79 12) + 1)))) rfl rfl (s_pf rfl rfl rfl rfl (by first | exact bndp r127 (by decide) (by decide) | exact ⟨by fail, by fail⟩)) ?_
                  refine go_toq PM151 (k := 2) (pc' := 18) (L' := [some (.inr (.inr (some 79))), some (.inl p1), some (.inl p2), some (.inl p3), some (.inl p4), some (.inl p5), some (.inl (l18_6 + 1)), some (.inl p4)]) (st' := []) (w' := (SH, (u2 (u2 dt94 85 ((dt94 79 12).toNat) (am_and (am_shr p4 (24 - (8 * (l18_6 % 4)))) 255)) 79 12 ((dt94 79 12) + 1)))) rfl ?_
                  exact GO.le (ih_loop103 (l18_6 + 1) (u2 (u2 dt94 85 ((dt94 79 12).toNat) (am_and (am_shr p4 (24 - (8 * (l18_6 % 4)))) 255)) 79 12 ((dt94 79 12) + 1)) hI138 hF139 (by first | with_reducible assumption | omega | exact FDX_0 | exact FDX_s qF (by fail) (by fail) k136 k137 (FBY_r (l := l18_6) (n0 := dt 79 12) (m := dt94 79 12) ⟨by fail, by fail⟩ (by fail) (by fail) (by fail) (by fail)) (by fail)) (by first | with_reducible assumption | omega | exact FDX_0 | exact FDX_s qF (by fail) (by fail) k136 k137 (FBY_r (l := l18_6) (n0 := dt 79 12) (m := dt94 79 12) ⟨by fail, by fail⟩ (by fail) (by fail) (by fail) (by fail)) (by fail)) (by first | with_reducible assumption | fail | exact FDX_0 | exact FDX_s qF (by omega) (by omega) k136 k137 (FBY_r (l := l18_6) (n0 := dt 79 12) (m := dt94 79 12) ⟨by omega, by omega⟩ (by omega) (by omega) (by omega) (by omega)) (by omega)) (by first | with_reducible assumption | omega | exact FDX_0 | exact FDX_s qF (by fail) (by fail) k136 k137 (FBY_r (l := l18_6) (n0 := dt 79 12) (m := dt94 79 12) ⟨by fail, by fail⟩ (by fail) (by fail) (by fail) (by fail)) (by fail)) (by first | with_reducible assumption | omega | exact FDX_0 | exact FDX_s qF (by fail) (by fail) k136 k137 (FBY_r (l := l18_6) (n0 := dt 79 12) (m := dt94 79 12) ⟨by fail, by fail⟩ (by fail) (by fail) (by fail) (by fail)) (by fail)) (by first | with_reducible assumption | omega | exact FDX_0 | exact FDX_s qF (by fail) (by fail) k136 k137 (FBY_r (l := l18_6) (n0 := dt 79 12) (m := dt94 79 12) ⟨by fail, by fail⟩ (by fail) (by fail) (by fail) (by fail)) (by fail)) (by omega)) ⟨.inl rfl, .inl rfl, .inl rfl, .inl rfl, .inl rfl, .inl rfl, .inl rfl, .inr ⟨rfl, trivial⟩, trivial⟩
              · skip
                have r144 : 0 ≤ dt94 79 12 ∧ dt94 79 12 ≤ 500 := InvC_get hI95 79 12 rfl rfl
                refine go_toq PM151 (k := 12) (pc' := 90) (L' := [some (.inr (.inr (some 79))), some (.inl p1), some (.inl p2), some (.inl p3), some (.inl p4), some (.inl p5), some (.inl l18_6), some (.inl p3)]) (st' := [.inl 4, .inl l18_6, .inl 8, .inl 24, .inl p3, .inl (dt94 79 12), .inr (.inr (some 85))]) (w' := (SH, dt94)) rfl ?_
                refine go_smpq PM151 (L' := [some (.inr (.inr (some 79))), some (.inl p1), some (.inl p2), some (.inl p3), some (.inl p4), some (.inl p5), some (.inl l18_6), some (.inl p3)]) (st' := [.inl (l18_6 % 4), .inl 8, .inl 24, .inl p3, .inl (dt94 79 12), .inr (.inr (some 85))]) (w' := (SH, dt94)) rfl rfl (s_iremc ⟨by omega, by omega⟩ ⟨by omega, by omega⟩) ?_
                have r145 : -2147483648 ≤ am_shr p3 (24 - (8 * (l18_6 % 4))) ∧ am_shr p3 (24 - (8 * (l18_6 % 4))) ≤ 2147483647 := am_shr_R
                have r146 : 0 ≤ am_and (am_shr p3 (24 - (8 * (l18_6 % 4)))) 255 ∧ am_and (am_shr p3 (24 - (8 * (l18_6 % 4)))) 255 ≤ 255 := and_R255
                refine go_toq PM151 (k := 5) (pc' := 98) (L' := [some (.inr (.inr (some 79))), some (.inl p1), some (.inl p2), some (.inl p3), some (.inl p4), some (.inl p5), some (.inl l18_6), some (.inl p3)]) (st' := [.inl (am_and (am_shr p3 (24 - (8 * (l18_6 % 4)))) 255), .inl (dt94 79 12), .inr (.inr (some 85))]) (w' := (SH, dt94)) rfl ?_
                have hI147 : InvC (u2 dt94 85 ((dt94 79 12).toNat) (am_and (am_shr p3 (24 - (8 * (l18_6 % 4)))) 255)) := InvC_u2 hI95 (lo := 0) (hi := 255) rfl rfl rfl (by first | exact bnd1 r146 (by decide) | fail) (by first | exact bnd2 r146 (by decide) | fail)
                have hF148 : Fr [79, 85] dt (u2 dt94 85 ((dt94 79 12).toNat) (am_and (am_shr p3 (24 - (8 * (l18_6 % 4)))) 255)) := Fr_u2 hF96 (by decide)
                have w149 : (u2 dt94 85 ((dt94 79 12).toNat) (am_and (am_shr p3 (24 - (8 * (l18_6 % 4)))) 255)) 79 12 = dt94 79 12 := rfl
                have w150 : (u2 dt94 85 ((dt94 79 12).toNat) (am_and (am_shr p3 (24 - (8 * (l18_6 % 4)))) 255)) 79 2 = dt94 79 2 := rfl
                have w151 : (u2 dt94 85 ((dt94 79 12).toNat) (am_and (am_shr p3 (24 - (8 * (l18_6 % 4)))) 255)) 79 19 = dt94 79 19 := rfl
                have w152 : (u2 dt94 85 ((dt94 79 12).toNat) (am_and (am_shr p3 (24 - (8 * (l18_6 % 4)))) 255)) 79 21 = dt94 79 21 := rfl
                have k153 : ∀ j : Nat, ¬ (j : Int) = dt94 79 12 → (u2 dt94 85 ((dt94 79 12).toNat) (am_and (am_shr p3 (24 - (8 * (l18_6 % 4)))) 255)) 85 j = dt94 85 j := fun j hj => u2_ne (by omega)
                have k154 : (u2 dt94 85 ((dt94 79 12).toNat) (am_and (am_shr p3 (24 - (8 * (l18_6 % 4)))) 255)) 85 (dt94 79 12).toNat = am_and (am_shr p3 (24 - (8 * (l18_6 % 4)))) 255 := u2_eq
                refine go_smpq PM151 (L' := [some (.inr (.inr (some 79))), some (.inl p1), some (.inl p2), some (.inl p3), some (.inl p4), some (.inl p5), some (.inl l18_6), some (.inl p3)]) (st' := []) (w' := (SH, (u2 dt94 85 ((dt94 79 12).toNat) (am_and (am_shr p3 (24 - (8 * (l18_6 % 4)))) 255)))) rfl rfl (s_iast (n := 500) rfl (by first | exact bndx r144 (by decide) (by decide) | exact ⟨by omega, by omega⟩) (by first | exact bnd r146 (by decide) (by decide) | exact ⟨by fail, by fail⟩)) ?_
                refine go_toq PM151 (k := 5) (pc' := 106) (L' := [some (.inr (.inr (some 79))), some (.inl p1), some (.inl p2), some (.inl p3), some (.inl p4), some (.inl p5), some (.inl l18_6), some (.inl p3)]) (st' := [.inl ((dt94 79 12) + 1), .inr (.inr (some 79))]) (w' := (SH, (u2 dt94 85 ((dt94 79 12).toNat) (am_and (am_shr p3 (24 - (8 * (l18_6 % 4)))) 255)))) rfl ?_
                have hI155 : InvC (u2 (u2 dt94 85 ((dt94 79 12).toNat) (am_and (am_shr p3 (24 - (8 * (l18_6 % 4)))) 255)) 79 12 ((dt94 79 12) + 1)) := InvC_u2 hI147 (lo := 0) (hi := 500) rfl rfl rfl (by omega) (by omega)
                have hF156 : Fr [79, 85] dt (u2 (u2 dt94 85 ((dt94 79 12).toNat) (am_and (am_shr p3 (24 - (8 * (l18_6 % 4)))) 255)) 79 12 ((dt94 79 12) + 1)) := Fr_u2 hF148 (by decide)
                have w157 : (u2 (u2 dt94 85 ((dt94 79 12).toNat) (am_and (am_shr p3 (24 - (8 * (l18_6 % 4)))) 255)) 79 12 ((dt94 79 12) + 1)) 79 12 = (dt94 79 12) + 1 := rfl
                have w158 : (u2 (u2 dt94 85 ((dt94 79 12).toNat) (am_and (am_shr p3 (24 - (8 * (l18_6 % 4)))) 255)) 79 12 ((dt94 79 12) + 1)) 79 2 = (u2 dt94 85 ((dt94 79 12).toNat) (am_and (am_shr p3 (24 - (8 * (l18_6 % 4)))) 255)) 79 2 := rfl
                have w159 : (u2 (u2 dt94 85 ((dt94 79 12).toNat) (am_and (am_shr p3 (24 - (8 * (l18_6 % 4)))) 255)) 79 12 ((dt94 79 12) + 1)) 79 19 = (u2 dt94 85 ((dt94 79 12).toNat) (am_and (am_shr p3 (24 - (8 * (l18_6 % 4)))) 255)) 79 19 := rfl
                have w160 : (u2 (u2 dt94 85 ((dt94 79 12).toNat) (am_and (am_shr p3 (24 - (8 * (l18_6 % 4)))) 255)) 79 12 ((dt94 79 12) + 1)) 79 21 = (u2 dt94 85 ((dt94 79 12).toNat) (am_and (am_shr p3 (24 - (8 * (l18_6 % 4)))) 255)) 79 21 := rfl
                refine go_smpq PM151 (L' := [some (.inr (.inr (some 79))), some (.inl p1), some (.inl p2), some (.inl p3), some (.inl p4), some (.inl p5), some (.inl l18_6), some (.inl p3)]) (st' := []) (w' := (SH, (u2 (u2 dt94 85 ((dt94 79 12).toNat) (am_and (am_shr p3 (24 - (8 * (l18_6 % 4)))) 255)) 79 12 ((dt94 79 12) + 1)))) rfl rfl (s_pf rfl rfl rfl rfl (by first | exact bndp r144 (by decide) (by decide) | exact ⟨by fail, by fail⟩)) ?_
                refine go_toq PM151 (k := 2) (pc' := 18) (L' := [some (.inr (.inr (some 79))), some (.inl p1), some (.inl p2), some (.inl p3), some (.inl p4), some (.inl p5), some (.inl (l18_6 + 1)), some (.inl p3)]) (st' := []) (w' := (SH, (u2 (u2 dt94 85 ((dt94 79 12).toNat) (am_and (am_shr p3 (24 - (8 * (l18_6 % 4)))) 255)) 79 12 ((dt94 79 12) + 1)))) rfl ?_
                exact GO.le (ih_loop103 (l18_6 + 1) (u2 (u2 dt94 85 ((dt94 79 12).toNat) (am_and (am_shr p3 (24 - (8 * (l18_6 % 4)))) 255)) 79 12 ((dt94 79 12) + 1)) hI155 hF156 (by first | with_reducible assumption | omega | exact FDX_0 | exact FDX_s qF (by fail) (by fail) k153 k154 (FBY_r (l := l18_6) (n0 := dt 79 12) (m := dt94 79 12) ⟨by fail, by fail⟩ (by fail) (by fail) (by fail) (by fail)) (by fail)) (by first | with_reducible assumption | omega | exact FDX_0 | exact FDX_s qF (by fail) (by fail) k153 k154 (FBY_r (l := l18_6) (n0 := dt 79 12) (m := dt94 79 12) ⟨by fail, by fail⟩ (by fail) (by fail) (by fail) (by fail)) (by fail)) (by first | with_reducible assumption | fail | exact FDX_0 | exact FDX_s qF (by omega) (by omega) k153 k154 (FBY_r (l := l18_6) (n0 := dt 79 12) (m := dt94 79 12) ⟨by omega, by omega⟩ (by omega) (by omega) (by omega) (by omega)) (by omega)) (by first | with_reducible assumption | omega | exact FDX_0 | exact FDX_s qF (by fail) (by fail) k153 k154 (FBY_r (l := l18_6) (n0 := dt 79 12) (m := dt94 79 12) ⟨by fail, by fail⟩ (by fail) (by fail) (by fail) (by fail)) (by fail)) (by first | with_reducible assumption | omega | exact FDX_0 | exact FDX_s qF (by fail) (by fail) k153 k154 (FBY_r (l := l18_6) (n0 := dt 79 12) (m := dt94 79 12) ⟨by fail, by fail⟩ (by fail) (by fail) (by fail) (by fail)) (by fail)) (by first | with_reducible assumption | omega | exact FDX_0 | exact FDX_s qF (by fail) (by fail) k153 k154 (FBY_r (l := l18_6) (n0 := dt 79 12) (m := dt94 79 12) ⟨by fail, by fail⟩ (by fail) (by fail) (by fail) (by fail)) (by fail)) (by omega)) ⟨.inl rfl, .inl rfl, .inl rfl, .inl rfl, .inl rfl, .inl rfl, .inl rfl, .inr ⟨rfl, trivial⟩, trivial⟩
            · skip
              have r161 : 0 ≤ dt94 79 12 ∧ dt94 79 12 ≤ 500 := InvC_get hI95 79 12 rfl rfl
              refine go_toq PM151 (k := 12) (pc' := 90) (L' := [some (.inr (.inr (some 79))), some (.inl p1), some (.inl p2), some (.inl p3), some (.inl p4), some (.inl p5), some (.inl l18_6), some (.inl p2)]) (st' := [.inl 4, .inl l18_6, .inl 8, .inl 24, .inl p2, .inl (dt94 79 12), .inr (.inr (some 85))]) (w' := (SH, dt94)) rfl ?_
              refine go_smpq PM151 (L' := [some (.inr (.inr (some 79))), some (.inl p1), some (.inl p2), some (.inl p3), some (.inl p4), some (.inl p5), some (.inl l18_6), some (.inl p2)]) (st' := [.inl (l18_6 % 4), .inl 8, .inl 24, .inl p2, .inl (dt94 79 12), .inr (.inr (some 85))]) (w' := (SH, dt94)) rfl rfl (s_iremc ⟨by omega, by omega⟩ ⟨by omega, by omega⟩) ?_
              have r162 : -2147483648 ≤ am_shr p2 (24 - (8 * (l18_6 % 4))) ∧ am_shr p2 (24 - (8 * (l18_6 % 4))) ≤ 2147483647 := am_shr_R
              have r163 : 0 ≤ am_and (am_shr p2 (24 - (8 * (l18_6 % 4)))) 255 ∧ am_and (am_shr p2 (24 - (8 * (l18_6 % 4)))) 255 ≤ 255 := and_R255
              refine go_toq PM151 (k := 5) (pc' := 98) (L' := [some (.inr (.inr (some 79))), some (.inl p1), some (.inl p2), some (.inl p3), some (.inl p4), some (.inl p5), some (.inl l18_6), some (.inl p2)]) (st' := [.inl (am_and (am_shr p2 (24 - (8 * (l18_6 % 4)))) 255), .inl (dt94 79 12), .inr (.inr (some 85))]) (w' := (SH, dt94)) rfl ?_
              have hI164 : InvC (u2 dt94 85 ((dt94 79 12).toNat) (am_and (am_shr p2 (24 - (8 * (l18_6 % 4)))) 255)) := InvC_u2 hI95 (lo := 0) (hi := 255) rfl rfl rfl (by first | exact bnd1 r163 (by decide) | fail) (by first | exact bnd2 r163 (by decide) | fail)
              have hF165 : Fr [79, 85] dt (u2 dt94 85 ((dt94 79 12).toNat) (am_and (am_shr p2 (24 - (8 * (l18_6 % 4)))) 255)) := Fr_u2 hF96 (by decide)
              have w166 : (u2 dt94 85 ((dt94 79 12).toNat) (am_and (am_shr p2 (24 - (8 * (l18_6 % 4)))) 255)) 79 12 = dt94 79 12 := rfl
              have w167 : (u2 dt94 85 ((dt94 79 12).toNat) (am_and (am_shr p2 (24 - (8 * (l18_6 % 4)))) 255)) 79 2 = dt94 79 2 := rfl
              have w168 : (u2 dt94 85 ((dt94 79 12).toNat) (am_and (am_shr p2 (24 - (8 * (l18_6 % 4)))) 255)) 79 19 = dt94 79 19 := rfl
              have w169 : (u2 dt94 85 ((dt94 79 12).toNat) (am_and (am_shr p2 (24 - (8 * (l18_6 % 4)))) 255)) 79 21 = dt94 79 21 := rfl
              have k170 : ∀ j : Nat, ¬ (j : Int) = dt94 79 12 → (u2 dt94 85 ((dt94 79 12).toNat) (am_and (am_shr p2 (24 - (8 * (l18_6 % 4)))) 255)) 85 j = dt94 85 j := fun j hj => u2_ne (by omega)
              have k171 : (u2 dt94 85 ((dt94 79 12).toNat) (am_and (am_shr p2 (24 - (8 * (l18_6 % 4)))) 255)) 85 (dt94 79 12).toNat = am_and (am_shr p2 (24 - (8 * (l18_6 % 4)))) 255 := u2_eq
              refine go_smpq PM151 (L' := [some (.inr (.inr (some 79))), some (.inl p1), some (.inl p2), some (.inl p3), some (.inl p4), some (.inl p5), some (.inl l18_6), some (.inl p2)]) (st' := []) (w' := (SH, (u2 dt94 85 ((dt94 79 12).toNat) (am_and (am_shr p2 (24 - (8 * (l18_6 % 4)))) 255)))) rfl rfl (s_iast (n := 500) rfl (by first | exact bndx r161 (by decide) (by decide) | exact ⟨by omega, by omega⟩) (by first | exact bnd r163 (by decide) (by decide) | exact ⟨by fail, by fail⟩)) ?_
              refine go_toq PM151 (k := 5) (pc' := 106) (L' := [some (.inr (.inr (some 79))), some (.inl p1), some (.inl p2), some (.inl p3), some (.inl p4), some (.inl p5), some (.inl l18_6), some (.inl p2)]) (st' := [.inl ((dt94 79 12) + 1), .inr (.inr (some 79))]) (w' := (SH, (u2 dt94 85 ((dt94 79 12).toNat) (am_and (am_shr p2 (24 - (8 * (l18_6 % 4)))) 255)))) rfl ?_
              have hI172 : InvC (u2 (u2 dt94 85 ((dt94 79 12).toNat) (am_and (am_shr p2 (24 - (8 * (l18_6 % 4)))) 255)) 79 12 ((dt94 79 12) + 1)) := InvC_u2 hI164 (lo := 0) (hi := 500) rfl rfl rfl (by omega) (by omega)
              have hF173 : Fr [79, 85] dt (u2 (u2 dt94 85 ((dt94 79 12).toNat) (am_and (am_shr p2 (24 - (8 * (l18_6 % 4)))) 255)) 79 12 ((dt94 79 12) + 1)) := Fr_u2 hF165 (by decide)
              have w174 : (u2 (u2 dt94 85 ((dt94 79 12).toNat) (am_and (am_shr p2 (24 - (8 * (l18_6 % 4)))) 255)) 79 12 ((dt94 79 12) + 1)) 79 12 = (dt94 79 12) + 1 := rfl
              have w175 : (u2 (u2 dt94 85 ((dt94 79 12).toNat) (am_and (am_shr p2 (24 - (8 * (l18_6 % 4)))) 255)) 79 12 ((dt94 79 12) + 1)) 79 2 = (u2 dt94 85 ((dt94 79 12).toNat) (am_and (am_shr p2 (24 - (8 * (l18_6 % 4)))) 255)) 79 2 := rfl
              have w176 : (u2 (u2 dt94 85 ((dt94 79 12).toNat) (am_and (am_shr p2 (24 - (8 * (l18_6 % 4)))) 255)) 79 12 ((dt94 79 12) + 1)) 79 19 = (u2 dt94 85 ((dt94 79 12).toNat) (am_and (am_shr p2 (24 - (8 * (l18_6 % 4)))) 255)) 79 19 := rfl
              have w177 : (u2 (u2 dt94 85 ((dt94 79 12).toNat) (am_and (am_shr p2 (24 - (8 * (l18_6 % 4)))) 255)) 79 12 ((dt94 79 12) + 1)) 79 21 = (u2 dt94 85 ((dt94 79 12).toNat) (am_and (am_shr p2 (24 - (8 * (l18_6 % 4)))) 255)) 79 21 := rfl
              refine go_smpq PM151 (L' := [some (.inr (.inr (some 79))), some (.inl p1), some (.inl p2), some (.inl p3), some (.inl p4), some (.inl p5), some (.inl l18_6), some (.inl p2)]) (st' := []) (w' := (SH, (u2 (u2 dt94 85 ((dt94 79 12).toNat) (am_and (am_shr p2 (24 - (8 * (l18_6 % 4)))) 255)) 79 12 ((dt94 79 12) + 1)))) rfl rfl (s_pf rfl rfl rfl rfl (by first | exact bndp r161 (by decide) (by decide) | exact ⟨by fail, by fail⟩)) ?_
              refine go_toq PM151 (k := 2) (pc' := 18) (L' := [some (.inr (.inr (some 79))), some (.inl p1), some (.inl p2), some (.inl p3), some (.inl p4), some (.inl p5), some (.inl (l18_6 + 1)), some (.inl p2)]) (st' := []) (w' := (SH, (u2 (u2 dt94 85 ((dt94 79 12).toNat) (am_and (am_shr p2 (24 - (8 * (l18_6 % 4)))) 255)) 79 12 ((dt94 79 12) + 1)))) rfl ?_
              exact GO.le (ih_loop103 (l18_6 + 1) (u2 (u2 dt94 85 ((dt94 79 12).toNat) (am_and (am_shr p2 (24 - (8 * (l18_6 % 4)))) 255)) 79 12 ((dt94 79 12) + 1)) hI172 hF173 (by first | with_reducible assumption | omega | exact FDX_0 | exact FDX_s qF (by fail) (by fail) k170 k171 (FBY_r (l := l18_6) (n0 := dt 79 12) (m := dt94 79 12) ⟨by fail, by fail⟩ (by fail) (by fail) (by fail) (by fail)) (by fail)) (by first | with_reducible assumption | omega | exact FDX_0 | exact FDX_s qF (by fail) (by fail) k170 k171 (FBY_r (l := l18_6) (n0 := dt 79 12) (m := dt94 79 12) ⟨by fail, by fail⟩ (by fail) (by fail) (by fail) (by fail)) (by fail)) (by first | with_reducible assumption | fail | exact FDX_0 | exact FDX_s qF (by omega) (by omega) k170 k171 (FBY_r (l := l18_6) (n0 := dt 79 12) (m := dt94 79 12) ⟨by omega, by omega⟩ (by omega) (by omega) (by omega) (by omega)) (by omega)) (by first | with_reducible assumption | omega | exact FDX_0 | exact FDX_s qF (by fail) (by fail) k170 k171 (FBY_r (l := l18_6) (n0 := dt 79 12) (m := dt94 79 12) ⟨by fail, by fail⟩ (by fail) (by fail) (by fail) (by fail)) (by fail)) (by first | with_reducible assumption | omega | exact FDX_0 | exact FDX_s qF (by fail) (by fail) k170 k171 (FBY_r (l := l18_6) (n0 := dt 79 12) (m := dt94 79 12) ⟨by fail, by fail⟩ (by fail) (by fail) (by fail) (by fail)) (by fail)) (by first | with_reducible assumption | omega | exact FDX_0 | exact FDX_s qF (by fail) (by fail) k170 k171 (FBY_r (l := l18_6) (n0 := dt 79 12) (m := dt94 79 12) ⟨by fail, by fail⟩ (by fail) (by fail) (by fail) (by fail)) (by fail)) (by omega)) ⟨.inl rfl, .inl rfl, .inl rfl, .inl rfl, .inl rfl, .inl rfl, .inl rfl, .inr ⟨rfl, trivial⟩, trivial⟩
          · skip
            have r178 : 0 ≤ dt94 79 12 ∧ dt94 79 12 ≤ 500 := InvC_get hI95 79 12 rfl rfl
            refine go_toq PM151 (k := 12) (pc' := 90) (L' := [some (.inr (.inr (some 79))), some (.inl p1), some (.inl p2), some (.inl p3), some (.inl p4), some (.inl p5), some (.inl l18_6), some (.inl p1)]) (st' := [.inl 4, .inl l18_6, .inl 8, .inl 24, .inl p1, .inl (dt94 79 12), .inr (.inr (some 85))]) (w' := (SH, dt94)) rfl ?_
            refine go_smpq PM151 (L' := [some (.inr (.inr (some 79))), some (.inl p1), some (.inl p2), some (.inl p3), some (.inl p4), some (.inl p5), some (.inl l18_6), some (.inl p1)]) (st' := [.inl (l18_6 % 4), .inl 8, .inl 24, .inl p1, .inl (dt94 79 12), .inr (.inr (some 85))]) (w' := (SH, dt94)) rfl rfl (s_iremc ⟨by omega, by omega⟩ ⟨by omega, by omega⟩) ?_
            have r179 : -2147483648 ≤ am_shr p1 (24 - (8 * (l18_6 % 4))) ∧ am_shr p1 (24 - (8 * (l18_6 % 4))) ≤ 2147483647 := am_shr_R
            have r180 : 0 ≤ am_and (am_shr p1 (24 - (8 * (l18_6 % 4)))) 255 ∧ am_and (am_shr p1 (24 - (8 * (l18_6 % 4)))) 255 ≤ 255 := and_R255
            refine go_toq PM151 (k := 5) (pc' := 98) (L' := [some (.inr (.inr (some 79))), some (.inl p1), some (.inl p2), some (.inl p3), some (.inl p4), some (.inl p5), some (.inl l18_6), some (.inl p1)]) (st' := [.inl (am_and (am_shr p1 (24 - (8 * (l18_6 % 4)))) 255), .inl (dt94 79 12), .inr (.inr (some 85))]) (w' := (SH, dt94)) rfl ?_
            have hI181 : InvC (u2 dt94 85 ((dt94 79 12).toNat) (am_and (am_shr p1 (24 - (8 * (l18_6 % 4)))) 255)) := InvC_u2 hI95 (lo := 0) (hi := 255) rfl rfl rfl (by first | exact bnd1 r180 (by decide) | fail) (by first | exact bnd2 r180 (by decide) | fail)
            have hF182 : Fr [79, 85] dt (u2 dt94 85 ((dt94 79 12).toNat) (am_and (am_shr p1 (24 - (8 * (l18_6 % 4)))) 255)) := Fr_u2 hF96 (by decide)
            have w183 : (u2 dt94 85 ((dt94 79 12).toNat) (am_and (am_shr p1 (24 - (8 * (l18_6 % 4)))) 255)) 79 12 = dt94 79 12 := rfl
            have w184 : (u2 dt94 85 ((dt94 79 12).toNat) (am_and (am_shr p1 (24 - (8 * (l18_6 % 4)))) 255)) 79 2 = dt94 79 2 := rfl
            have w185 : (u2 dt94 85 ((dt94 79 12).toNat) (am_and (am_shr p1 (24 - (8 * (l18_6 % 4)))) 255)) 79 19 = dt94 79 19 := rfl
            have w186 : (u2 dt94 85 ((dt94 79 12).toNat) (am_and (am_shr p1 (24 - (8 * (l18_6 % 4)))) 255)) 79 21 = dt94 79 21 := rfl
            have k187 : ∀ j : Nat, ¬ (j : Int) = dt94 79 12 → (u2 dt94 85 ((dt94 79 12).toNat) (am_and (am_shr p1 (24 - (8 * (l18_6 % 4)))) 255)) 85 j = dt94 85 j := fun j hj => u2_ne (by omega)
            have k188 : (u2 dt94 85 ((dt94 79 12).toNat) (am_and (am_shr p1 (24 - (8 * (l18_6 % 4)))) 255)) 85 (dt94 79 12).toNat = am_and (am_shr p1 (24 - (8 * (l18_6 % 4)))) 255 := u2_eq
            refine go_smpq PM151 (L' := [some (.inr (.inr (some 79))), some (.inl p1), some (.inl p2), some (.inl p3), some (.inl p4), some (.inl p5), some (.inl l18_6), some (.inl p1)]) (st' := []) (w' := (SH, (u2 dt94 85 ((dt94 79 12).toNat) (am_and (am_shr p1 (24 - (8 * (l18_6 % 4)))) 255)))) rfl rfl (s_iast (n := 500) rfl (by first | exact bndx r178 (by decide) (by decide) | exact ⟨by omega, by omega⟩) (by first | exact bnd r180 (by decide) (by decide) | exact ⟨by fail, by fail⟩)) ?_
            refine go_toq PM151 (k := 5) (pc' := 106) (L' := [some (.inr (.inr (some 79))), some (.inl p1), some (.inl p2), some (.inl p3), some (.inl p4), some (.inl p5), some (.inl l18_6), some (.inl p1)]) (st' := [.inl ((dt94 79 12) + 1), .inr (.inr (some 79))]) (w' := (SH, (u2 dt94 85 ((dt94 79 12).toNat) (am_and (am_shr p1 (24 - (8 * (l18_6 % 4)))) 255)))) rfl ?_
            have hI189 : InvC (u2 (u2 dt94 85 ((dt94 79 12).toNat) (am_and (am_shr p1 (24 - (8 * (l18_6 % 4)))) 255)) 79 12 ((dt94 79 12) + 1)) := InvC_u2 hI181 (lo := 0) (hi := 500) rfl rfl rfl (by omega) (by omega)
            have hF190 : Fr [79, 85] dt (u2 (u2 dt94 85 ((dt94 79 12).toNat) (am_and (am_shr p1 (24 - (8 * (l18_6 % 4)))) 255)) 79 12 ((dt94 79 12) + 1)) := Fr_u2 hF182 (by decide)
            have w191 : (u2 (u2 dt94 85 ((dt94 79 12).toNat) (am_and (am_shr p1 (24 - (8 * (l18_6 % 4)))) 255)) 79 12 ((dt94 79 12) + 1)) 79 12 = (dt94 79 12) + 1 := rfl
            have w192 : (u2 (u2 dt94 85 ((dt94 79 12).toNat) (am_and (am_shr p1 (24 - (8 * (l18_6 % 4)))) 255)) 79 12 ((dt94 79 12) + 1)) 79 2 = (u2 dt94 85 ((dt94 79 12).toNat) (am_and (am_shr p1 (24 - (8 * (l18_6 % 4)))) 255)) 79 2 := rfl
            have w193 : (u2 (u2 dt94 85 ((dt94 79 12).toNat) (am_and (am_shr p1 (24 - (8 * (l18_6 % 4)))) 255)) 79 12 ((dt94 79 12) + 1)) 79 19 = (u2 dt94 85 ((dt94 79 12).toNat) (am_and (am_shr p1 (24 - (8 * (l18_6 % 4)))) 255)) 79 19 := rfl
            have w194 : (u2 (u2 dt94 85 ((dt94 79 12).toNat) (am_and (am_shr p1 (24 - (8 * (l18_6 % 4)))) 255)) 79 12 ((dt94 79 12) + 1)) 79 21 = (u2 dt94 85 ((dt94 79 12).toNat) (am_and (am_shr p1 (24 - (8 * (l18_6 % 4)))) 255)) 79 21 := rfl
            refine go_smpq PM151 (L' := [some (.inr (.inr (some 79))), some (.inl p1), some (.inl p2), some (.inl p3), some (.inl p4), some (.inl p5), some (.inl l18_6), some (.inl p1)]) (st' := []) (w' := (SH, (u2 (u2 dt94 85 ((dt94 79 12).toNat) (am_and (am_shr p1 (24 - (8 * (l18_6 % 4)))) 255)) 79 12 ((dt94 79 12) + 1)))) rfl rfl (s_pf rfl rfl rfl rfl (by first | exact bndp r178 (by decide) (by decide) | exact ⟨by fail, by fail⟩)) ?_
            refine go_toq PM151 (k := 2) (pc' := 18) (L' := [some (.inr (.inr (some 79))), some (.inl p1), some (.inl p2), some (.inl p3), some (.inl p4), some (.inl p5), some (.inl (l18_6 + 1)), some (.inl p1)]) (st' := []) (w' := (SH, (u2 (u2 dt94 85 ((dt94 79 12).toNat) (am_and (am_shr p1 (24 - (8 * (l18_6 % 4)))) 255)) 79 12 ((dt94 79 12) + 1)))) rfl ?_
            exact GO.le (ih_loop103 (l18_6 + 1) (u2 (u2 dt94 85 ((dt94 79 12).toNat) (am_and (am_shr p1 (24 - (8 * (l18_6 % 4)))) 255)) 79 12 ((dt94 79 12) + 1)) hI189 hF190 (by first | with_reducible assumption | omega | exact FDX_0 | exact FDX_s qF (by fail) (by fail) k187 k188 (FBY_r (l := l18_6) (n0 := dt 79 12) (m := dt94 79 12) ⟨by fail, by fail⟩ (by fail) (by fail) (by fail) (by fail)) (by fail)) (by first | with_reducible assumption | omega | exact FDX_0 | exact FDX_s qF (by fail) (by fail) k187 k188 (FBY_r (l := l18_6) (n0 := dt 79 12) (m := dt94 79 12) ⟨by fail, by fail⟩ (by fail) (by fail) (by fail) (by fail)) (by fail)) (by first | with_reducible assumption | fail | exact FDX_0 | exact FDX_s qF (by omega) (by omega) k187 k188 (FBY_r (l := l18_6) (n0 := dt 79 12) (m := dt94 79 12) ⟨by omega, by omega⟩ (by omega) (by omega) (by omega) (by omega)) (by omega)) (by first | with_reducible assumption | omega | exact FDX_0 | exact FDX_s qF (by fail) (by fail) k187 k188 (FBY_r (l := l18_6) (n0 := dt 79 12) (m := dt94 79 12) ⟨by fail, by fail⟩ (by fail) (by fail) (by fail) (by fail)) (by fail)) (by first | with_reducible assumption | omega | exact FDX_0 | exact FDX_s qF (by fail) (by fail) k187 k188 (FBY_r (l := l18_6) (n0 := dt 79 12) (m := dt94 79 12) ⟨by fail, by fail⟩ (by fail) (by fail) (by fail) (by fail)) (by fail)) (by first | with_reducible assumption | omega | exact FDX_0 | exact FDX_s qF (by fail) (by fail) k187 k188 (FBY_r (l := l18_6) (n0 := dt 79 12) (m := dt94 79 12) ⟨by fail, by fail⟩ (by fail) (by fail) (by fail) (by fail)) (by fail)) (by omega)) ⟨.inl rfl, .inl rfl, .inl rfl, .inl rfl, .inl rfl, .inl rfl, .inl rfl, .inr ⟨rfl, trivial⟩, trivial⟩
    exact GO.le (loop103 _ 0 dt hI hF (by first | with_reducible assumption | omega | exact FDX_0 | exact FDX_s qF (by fail) (by fail) hI hI (FBY_r (l := l18_6) (n0 := dt 79 12) (m := dt 79 12) ⟨by fail, by fail⟩ (by fail) (by fail) (by fail) (by fail)) (by fail)) (by first | with_reducible assumption | omega | exact FDX_0 | exact FDX_s qF (by fail) (by fail) hI hI (FBY_r (l := l18_6) (n0 := dt 79 12) (m := dt 79 12) ⟨by fail, by fail⟩ (by fail) (by fail) (by fail) (by fail)) (by fail)) (by first | with_reducible assumption | fail | exact FDX_0 | exact FDX_s qF (by fail) (by fail) hI hI (FBY_r (l := l18_6) (n0 := dt 79 12) (m := dt 79 12) ⟨by fail, by fail⟩ (by fail) (by fail) (by fail) (by fail)) (by fail)) (by first | with_reducible assumption | omega | exact FDX_0 | exact FDX_s qF (by fail) (by fail) hI hI (FBY_r (l := l18_6) (n0 := dt 79 12) (m := dt 79 12) ⟨by fail, by fail⟩ (by fail) (by fail) (by fail) (by fail)) (by fail)) (by first | with_reducible assumption | omega | exact FDX_0 | exact FDX_s qF (by fail) (by fail) hI hI (FBY_r (l := l18_6) (n0 := dt 79 12) (m := dt 79 12) ⟨by fail, by fail⟩ (by fail) (by fail) (by fail) (by fail)) (by fail)) (by first | with_reducible assumption | omega | exact FDX_0 | exact FDX_s qF (by fail) (by fail) hI hI (FBY_r (l := l18_6) (n0 := dt 79 12) (m := dt 79 12) ⟨by fail, by fail⟩ (by fail) (by fail) (by fail) (by fail)) (by fail)) (Nat.lt_succ_self _)) ⟨.inl rfl, .inl rfl, .inl rfl, .inl rfl, .inl rfl, .inl rfl, .inl rfl, .inl rfl, trivial⟩
  · skip
    refine go_retq PM151 (k := 1) (r := some (.inl (-1))) (w1 := (SH, dt)) rfl ?_
    first | exact ⟨dt, rfl, hI, hF, (Or.inl ⟨rfl, ⟨by first | exact True.intro | with_reducible assumption | rfl | fail | trivial, by first | exact True.intro | with_reducible assumption | rfl | fail | trivial, by exact fun _ => rfl, by first | exact True.intro | with_reducible assumption | rfl | fail | trivial, by first | exact True.intro | with_reducible assumption | rfl | fail | trivial, by first | exact True.intro | with_reducible assumption | rfl | fail | trivial⟩⟩)⟩ | exact ⟨dt, rfl, hI, hF, (Or.inr ⟨_, rfl, ⟨by decide, by decide⟩, ⟨by first | exact True.intro | with_reducible assumption | rfl | fail | trivial, by first | exact True.intro | with_reducible assumption | rfl | fail | trivial, by first | exact True.intro | with_reducible assumption | rfl | fail | trivial, by exact qF, by first | exact True.intro | with_reducible assumption | rfl | fail | trivial, by first | exact True.intro | with_reducible assumption | rfl | fail | trivial, by first | exact True.intro | with_reducible assumption | rfl | fail | trivial⟩⟩)⟩
theorem sp_X1_shorten_f (L : Nat) (xs : Nat → Int32) (sio : Option Nat) (d : Nat) (dt : Nat → Nat → Int) (hI : InvC dt)  (p1 : Int) (h_p1 : (-2147483648) ≤ p1 ∧ p1 ≤ 2147483647)  : GO (am_XX L xs sio) (d) 8 0 [some (.inr (.inr (some 35))), some (.inl p1)] [] (SH, dt) (fun r w2 => ∃ dt2 : Nat → Nat → Int, w2 = (SH, dt2) ∧ InvC dt2 ∧ Fr [35] dt dt2 ∧ ((r = some (.inl 1) ∧ (0 ≤ p1 ∧ p1 ≤ dt 35 1) ∧ (dt2 35 1 = p1) ∧ (dt2 35 2 = dt 35 2) ∧ (dt2 35 3 = dt 35 3)) ∨ (r = some (.inl 0) ∧ (¬ (0 ≤ p1 ∧ p1 ≤ dt 35 1)) ∧ (dt2 35 1 = dt 35 1) ∧ (dt2 35 2 = dt 35 2) ∧ (dt2 35 3 = dt 35 3)))) := by
  have hF : Fr [35] dt dt := Fr_refl
  refine go_ifq PM8 (k := 1) (p1 := 12) (p2 := 4) (L' := [some (.inr (.inr (some 35))), some (.inl p1)]) (st' := []) (w' := (SH, dt)) rfl (z_lt (a := p1) (by first | exact bnd h_p1 (by decide) (by decide) | exact ⟨by fail, by fail⟩)) (fun c1 => ?_) (fun c1 => ?_)
  · skip
    refine go_retq PM8 (k := 1) (r := some (.inl 0)) (w1 := (SH, dt)) rfl ?_
    exact ⟨dt, rfl, hI, hF, (Or.inr ⟨rfl, ⟨by first | exact True.intro | with_reducible assumption | rfl | omega | trivial, by first | exact True.intro | with_reducible assumption | rfl | fail | trivial, by first | exact True.intro | with_reducible assumption | rfl | fail | trivial, by first | exact True.intro | with_reducible assumption | rfl | fail | trivial⟩⟩)⟩
  · skip
    have r2 : 0 ≤ dt 35 1 ∧ dt 35 1 ≤ 500 := InvC_get hI 35 1 rfl rfl
    refine go_ifq PM8 (k := 3) (p1 := 14) (p2 := 12) (L' := [some (.inr (.inr (some 35))), some (.inl p1)]) (st' := []) (w' := (SH, dt)) rfl (c_le (a := p1) (b := dt 35 1) (by first | exact bnd h_p1 (by decide) (by decide) | exact ⟨by fail, by fail⟩) (by first | exact bnd r2 (by decide) (by decide) | exact ⟨by fail, by fail⟩)) (fun c3 => ?_) (fun c3 => ?_)
    · skip
      refine go_toq PM8 (k := 2) (pc' := 16) (L' := [some (.inr (.inr (some 35))), some (.inl p1)]) (st' := [.inl p1, .inr (.inr (some 35))]) (w' := (SH, dt)) rfl ?_
      have hI4 : InvC (u2 dt 35 1 p1) := InvC_u2 hI (lo := 0) (hi := 500) rfl rfl rfl (by first | exact bnd1 h_p1 (by decide) | omega) (by first | exact bnd2 h_p1 (by decide) | omega)
      have hF5 : Fr [35] dt (u2 dt 35 1 p1) := Fr_u2 hF (by decide)
      have w6 : (u2 dt 35 1 p1) 35 1 = p1 := rfl
      have w7 : (u2 dt 35 1 p1) 35 2 = dt 35 2 := rfl
      have w8 : (u2 dt 35 1 p1) 35 3 = dt 35 3 := rfl
      refine go_smpq PM8 (L' := [some (.inr (.inr (some 35))), some (.inl p1)]) (st' := []) (w' := (SH, (u2 dt 35 1 p1))) rfl rfl (s_pf rfl rfl rfl rfl (by first | exact bnd h_p1 (by decide) (by decide) | exact ⟨by fail, by fail⟩)) ?_
      refine go_retq PM8 (k := 1) (r := some (.inl 1)) (w1 := (SH, (u2 dt 35 1 p1))) rfl ?_
      exact ⟨(u2 dt 35 1 p1), rfl, hI4, hF5, (Or.inl ⟨rfl, ⟨by first | exact True.intro | with_reducible assumption | rfl | omega | trivial, by first | exact True.intro | with_reducible assumption | rfl | fail | trivial, by first | exact True.intro | with_reducible assumption | rfl | fail | trivial, by first | exact True.intro | with_reducible assumption | rfl | fail | trivial⟩⟩)⟩
    · skip
      refine go_retq PM8 (k := 1) (r := some (.inl 0)) (w1 := (SH, dt)) rfl ?_
      exact ⟨dt, rfl, hI, hF, (Or.inr ⟨rfl, ⟨by first | exact True.intro | with_reducible assumption | rfl | omega | trivial, by first | exact True.intro | with_reducible assumption | rfl | fail | trivial, by first | exact True.intro | with_reducible assumption | rfl | fail | trivial, by first | exact True.intro | with_reducible assumption | rfl | fail | trivial⟩⟩)⟩
theorem sp_X5_end_f (L : Nat) (xs : Nat → Int32) (sio : Option Nat) (d : Nat) (dt : Nat → Nat → Int) (hI : InvC dt)  (p1 : Int) (h_p1 : (-2147483648) ≤ p1 ∧ p1 ≤ 2147483647)  : GO (am_XX L xs sio) (d + 1) 69 0 [some (.inr (.inr (some 0))), some (.inl p1)] [] (SH, dt) (fun r w2 => ∃ dt2 : Nat → Nat → Int, w2 = (SH, dt2) ∧ InvC dt2 ∧ Fr [35] dt dt2 ∧ ((r = some (.inl 1) ∧ (0 ≤ p1 ∧ p1 ≤ dt 35 1) ∧ (dt2 35 1 = p1) ∧ (dt2 35 2 = dt 35 2) ∧ (dt2 35 3 = dt 35 3)) ∨ (r = some (.inl 0) ∧ (¬ (0 ≤ p1 ∧ p1 ≤ dt 35 1)) ∧ (dt2 35 1 = dt 35 1) ∧ (dt2 35 2 = dt 35 2) ∧ (dt2 35 3 = dt 35 3)))) := by
  have hF : Fr [35] dt dt := Fr_refl
  refine go_toq PM69 (k := 3) (pc' := 5) (L' := [some (.inr (.inr (some 0))), some (.inl p1)]) (st' := [.inl p1, .inr (.inr (some 35))]) (w' := (SH, dt)) rfl ?_
  refine go_callq PM69 PM8 (Q' := _) rfl rfl rfl rfl (sp_X1_shorten_f L xs sio (d + 0) dt hI  p1 (by first | exact h_p1 | exact bnd h_p1 (by decide) (by decide) | exact ⟨by fail, by fail⟩) ) ?_
  rintro _ _ ⟨dt2, rfl, hI3, hF4, h1⟩
  refine ⟨rfl, ?_⟩
  have hF5 : Fr [35] dt dt2 := Fr_tr hF hF4 (by decide)
  rcases h1 with ⟨rfl, h1⟩ | ⟨rfl, h1⟩
  · skip
    refine go_retq PM69 (k := 0) (r := some (.inl 1)) (w1 := (SH, dt2)) rfl ?_
    exact ⟨dt2, rfl, hI3, hF5, (Or.inl ⟨rfl, ⟨by first | exact True.intro | with_reducible assumption | rfl | omega | trivial, by first | exact True.intro | with_reducible assumption | rfl | omega | trivial, by first | exact True.intro | with_reducible assumption | rfl | omega | trivial, by first | exact True.intro | with_reducible assumption | rfl | omega | trivial⟩⟩)⟩
  · skip
    refine go_retq PM69 (k := 0) (r := some (.inl 0)) (w1 := (SH, dt2)) rfl ?_
    exact ⟨dt2, rfl, hI3, hF5, (Or.inr ⟨rfl, ⟨by first | exact True.intro | with_reducible assumption | rfl | omega | trivial, by first | exact True.intro | with_reducible assumption | rfl | omega | trivial, by first | exact True.intro | with_reducible assumption | rfl | omega | trivial, by first | exact True.intro | with_reducible assumption | rfl | omega | trivial⟩⟩)⟩
set_option maxRecDepth 20000 in
theorem sp_X6_end_f (L : Nat) (xs : Nat → Int32) (sio : Option Nat) (d : Nat) (dt : Nat → Nat → Int) (hI : InvC dt)  (p1 : Int) (h_p1 : (-2147483648) ≤ p1 ∧ p1 ≤ 2147483647)  : GO (am_XX L xs sio) (d + 1) 152 0 [some (.inr (.inr (some 79))), some (.inl p1)] [] (SH, dt) (fun r w2 => ∃ dt2 : Nat → Nat → Int, w2 = (SH, dt2) ∧ InvC dt2 ∧ Fr [79] dt dt2 ∧ ((r = some (.inl 1) ∧ (0 ≤ p1 ∧ p1 ≤ dt 79 12) ∧ (dt2 79 12 = p1) ∧ (dt2 79 2 = dt 79 2) ∧ (dt2 79 19 = dt 79 19) ∧ (dt2 79 21 = dt 79 21)) ∨ (r = some (.inl 0) ∧ (¬ (0 ≤ p1 ∧ p1 ≤ dt 79 12)) ∧ (dt2 79 12 = dt 79 12) ∧ (dt2 79 2 = dt 79 2) ∧ (dt2 79 19 = dt 79 19) ∧ (dt2 79 21 = dt 79 21)))) := by
  have hF : Fr [79] dt dt := Fr_refl
  have r1 : 0 ≤ dt 79 12 ∧ dt 79 12 ≤ 500 := InvC_get hI 79 12 rfl rfl
  refine go_toq PM152 (k := 4) (pc' := 6) (L' := [some (.inr (.inr (some 79))), some (.inl p1)]) (st' := [.inl (dt 79 12), .inl 0, .inl p1]) (w' := (SH, dt)) rfl ?_
  refine go_callq PM152 PM146 (Q' := _) rfl rfl rfl rfl (sp_X6_isIn L xs sio (d + 0) dt hI  p1 (by first | exact h_p1 | exact bnd h_p1 (by decide) (by decide) | exact ⟨by fail, by fail⟩) 0 ⟨by decide, by decide⟩ (dt 79 12) (by first | exact bnd r1 (by decide) (by decide) | exact ⟨by fail, by fail⟩) ) ?_
  rintro _ _ ⟨rfl, h2⟩
  refine ⟨rfl, ?_⟩
  rcases h2 with ⟨rfl, h2⟩ | ⟨rfl, h2⟩
  · skip
    refine go_toq PM152 (k := 3) (pc' := 16) (L' := [some (.inr (.inr (some 79))), some (.inl p1)]) (st' := [.inl p1, .inr (.inr (some 79))]) (w' := (SH, dt)) rfl ?_
    have hI3 : InvC (u2 dt 79 12 p1) := InvC_u2 hI (lo := 0) (hi := 500) rfl rfl rfl (by first | exact bnd1 h_p1 (by decide) | omega) (by first | exact bnd2 h_p1 (by decide) | omega)
    have hF4 : Fr [79] dt (u2 dt 79 12 p1) := Fr_u2 hF (by decide)
    have w5 : (u2 dt 79 12 p1) 79 12 = p1 := rfl
    have w6 : (u2 dt 79 12 p1) 79 2 = dt 79 2 := rfl
    have w7 : (u2 dt 79 12 p1) 79 19 = dt 79 19 := rfl
    have w8 : (u2 dt 79 12 p1) 79 21 = dt 79 21 := rfl
    refine go_smpq PM152 (L' := [some (.inr (.inr (some 79))), some (.inl p1)]) (st' := []) (w' := (SH, (u2 dt 79 12 p1))) rfl rfl (s_pf rfl rfl rfl rfl (by first | exact bnd h_p1 (by decide) (by decide) | exact ⟨by fail, by fail⟩)) ?_
    refine go_retq PM152 (k := 1) (r := some (.inl 1)) (w1 := (SH, (u2 dt 79 12 p1))) rfl ?_
    exact ⟨(u2 dt 79 12 p1), rfl, hI3, hF4, (Or.inl ⟨rfl, ⟨by first | exact True.intro | with_reducible assumption | rfl | fail | trivial, by first | exact True.intro | with_reducible assumption | rfl | fail | trivial, by first | exact True.intro | with_reducible assumption | rfl | fail | trivial, by first | exact True.intro | with_reducible assumption | rfl | fail | trivial, by first | exact True.intro | with_reducible assumption | rfl | fail | trivial⟩⟩)⟩
  · skip
    refine go_retq PM152 (k := 2) (r := some (.inl 0)) (w1 := (SH, dt)) rfl ?_
    exact ⟨dt, rfl, hI, hF, (Or.inr ⟨rfl, ⟨by first | exact True.intro | with_reducible assumption | rfl | fail | trivial, by first | exact True.intro | with_reducible assumption | rfl | fail | trivial, by first | exact True.intro | with_reducible assumption | rfl | fail | trivial, by first | exact True.intro | with_reducible assumption | rfl | fail | trivial, by first | exact True.intro | with_reducible assumption | rfl | fail | trivial⟩⟩)⟩
set_option maxRecDepth 20000 in
theorem sp_X6_curves_k (L : Nat) (xs : Nat → Int32) (sio : Option Nat) (d : Nat) (dt : Nat → Nat → Int) (hI : InvC dt) (hM : MW (dt 80))  (p1 : Int) (h_p1 : (-1) ≤ p1 ∧ p1 ≤ 20)  : GO (am_XX L xs sio) (d + 7) 241 0 [some (.inr (.inr (some 79))), some (.inl p1), none] [] (SH, dt) (fun r w2 => ∃ dt2 : Nat → Nat → Int, w2 = (SH, dt2) ∧ InvC dt2 ∧ Fr [79, 88, 89, 90, 91, 92, 93, 94, 95, 96, 97, 98, 99, 100] dt dt2 ∧ ((r = none ∧ (dt2 79 2 = dt 79 2) ∧ (dt2 79 12 = dt 79 12) ∧ (dt2 79 19 = dt 79 19) ∧ (dt2 79 21 = dt 79 21)))) := by
  have hF : Fr [79, 88, 89, 90, 91, 92, 93, 94, 95, 96, 97, 98, 99, 100] dt dt := Fr_refl
  refine go_toq PM241 (k := 2) (pc' := 2) (L' := [some (.inr (.inr (some 79))), some (.inl p1), none]) (st' := [.inl 0, .inr (.inr (some 79))]) (w' := (SH, dt)) rfl ?_
  have hI1 : InvC (u2 dt 79 39 0) := InvC_u2 hI (lo := -2147483648) (hi := 2147483647) rfl rfl rfl (by decide) (by decide)
  have hF2 : Fr [79, 88, 89, 90, 91, 92, 93, 94, 95, 96, 97, 98, 99, 100] dt (u2 dt 79 39 0) := Fr_u2 hF (by decide)
  have w3 : (u2 dt 79 39 0) 79 2 = dt 79 2 := rfl
  have w4 : (u2 dt 79 39 0) 79 12 = dt 79 12 := rfl
  have w5 : (u2 dt 79 39 0) 79 19 = dt 79 19 := rfl
  have w6 : (u2 dt 79 39 0) 79 21 = dt 79 21 := rfl
  refine go_smpq PM241 (L' := [some (.inr (.inr (some 79))), some (.inl p1), none]) (st' := []) (w' := (SH, (u2 dt 79 39 0))) rfl rfl (s_pf rfl rfl rfl rfl ⟨by decide, by decide⟩) ?_
  refine go_toq PM241 (k := 2) (pc' := 7) (L' := [some (.inr (.inr (some 79))), some (.inl p1), none]) (st' := [.inl 0, .inr (.inr (some 79))]) (w' := (SH, (u2 dt 79 39 0))) rfl ?_
  have hI7 : InvC (u2 (u2 dt 79 39 0) 79 40 0) := InvC_u2 hI1 (lo := -2147483648) (hi := 2147483647) rfl rfl rfl (by decide) (by decide)
  have hF8 : Fr [79, 88, 89, 90, 91, 92, 93, 94, 95, 96, 97, 98, 99, 100] dt (u2 (u2 dt 79 39 0) 79 40 0) := Fr_u2 hF2 (by decide)
  have w9 : (u2 (u2 dt 79 39 0) 79 40 0) 79 2 = (u2 dt 79 39 0) 79 2 := rfl
  have w10 : (u2 (u2 dt 79 39 0) 79 40 0) 79 12 = (u2 dt 79 39 0) 79 12 := rfl
  have w11 : (u2 (u2 dt 79 39 0) 79 40 0) 79 19 = (u2 dt 79 39 0) 79 19 := rfl
  have w12 : (u2 (u2 dt 79 39 0) 79 40 0) 79 21 = (u2 dt 79 39 0) 79 21 := rfl
  refine go_smpq PM241 (L' := [some (.inr (.inr (some 79))), some (.inl p1), none]) (st' := []) (w' := (SH, (u2 (u2 dt 79 39 0) 79 40 0))) rfl rfl (s_pf rfl rfl rfl rfl ⟨by decide, by decide⟩) ?_
  refine go_toq PM241 (k := 2) (pc' := 12) (L' := [some (.inr (.inr (some 79))), some (.inl p1), some (.inl 0)]) (st' := []) (w' := (SH, (u2 (u2 dt 79 39 0) 79 40 0))) rfl ?_
  have loop365 : ∀ (k_ : Nat) (l12_2 : Int) (dt357 : Nat → Nat → Int) (hI358 : InvC dt357) (hF359 : Fr [79, 88, 89, 90, 91, 92, 93, 94, 95, 96, 97, 98, 99, 100] dt dt357) (i360 : 0 ≤ l12_2 ∧ l12_2 ≤ 300) (i361 : dt357 79 2 = dt 79 2) (i362 : dt357 79 12 = dt 79 12) (i363 : dt357 79 19 = dt 79 19) (i364 : dt357 79 21 = dt 79 21), (301 - l12_2).toNat < k_ → GO (am_XX L xs sio) (d + 7) 241 12 [some (.inr (.inr (some 79))), some (.inl p1), some (.inl l12_2)] [] (SH, dt357) (fun r w2 => ∃ dt2 : Nat → Nat → Int, w2 = (SH, dt2) ∧ InvC dt2 ∧ Fr [79, 88, 89, 90, 91, 92, 93, 94, 95, 96, 97, 98, 99, 100] dt dt2 ∧ ((r = none ∧ (dt2 79 2 = dt 79 2) ∧ (dt2 79 12 = dt 79 12) ∧ (dt2 79 19 = dt 79 19) ∧ (dt2 79 21 = dt 79 21)))) := by
    intro k_
    induction k_ with
    | zero => intro l12_2 dt357 hI358 hF359 i360 i361 i362 i363 i364 hm; exact absurd hm (Nat.not_lt_zero _)
    | succ k_ ih_loop365 =>
      intro l12_2 dt357 hI358 hF359 i360 i361 i362 i363 i364 hm
      refine go_toq PM241 (k := 4) (pc' := 18) (L' := [some (.inr (.inr (some 79))), some (.inl p1), some (.inl l12_2)]) (st' := [.inl 3, .inr (.inr (some 80)), .inl l12_2]) (w' := (SH, dt357)) rfl ?_
      have r366 : (-2147483648) ≤ dt 80 3 ∧ dt 80 3 ≤ 2147483647 := InvC_get hI 80 3 rfl rfl
      have r367 := MW_n hM
      refine go_smpq PM241 (L' := [some (.inr (.inr (some 79))), some (.inl p1), some (.inl l12_2)]) (st' := [.inl (dt 80 3), .inl l12_2]) (w' := (SH, dt357)) rfl rfl (s_ev (s_iald (n := 7460) (f := dt357 80) rfl ⟨by decide, by decide⟩) (hF359 80 (by decide) _)) ?_
      refine go_ifq PM241 (k := 0) (p1 := 101) (p2 := 22) (L' := [some (.inr (.inr (some 79))), some (.inl p1), some (.inl l12_2)]) (st' := []) (w' := (SH, dt357)) rfl (c_ge (a := l12_2) (b := dt 80 3) (by first | exact bnd i360 (by decide) (by decide) | exact ⟨by fail, by fail⟩) (by first | exact bnd r366 (by decide) (by decide) | exact ⟨by fail, by fail⟩)) (fun c408 => ?_) (fun c408 => ?_)
      · skip
        refine go_retq PM241 (k := 0) (r := none) (w1 := (SH, dt357)) rfl ?_
        exact ⟨dt357, rfl, hI358, hF359, ⟨rfl, ⟨by first | exact True.intro | with_reducible assumption | rfl | fail | trivial, by first | exact True.intro | with_reducible assumption | rfl | fail | trivial, by first | exact True.intro | with_reducible assumption | rfl | fail | trivial, by first | exact True.intro | with_reducible assumption | rfl | fail | trivial⟩⟩⟩
      · skip
        refine go_toq PM241 (k := 4) (pc' := 26) (L' := [some (.inr (.inr (some 79))), some (.inl p1), some (.inl l12_2)]) (st' := [.inl 0, .inl l12_2, .inr (.inr (some 79)), .inr (.inr (some 79))]) (w' := (SH, dt357)) rfl ?_
        refine go_callq PM241 PM209 (Q' := _) rfl rfl rfl rfl (sp_X6_ofAnswer_0 L xs sio (d + 6) dt357 hI358 (MW_fr hM hF359 (by decide))  l12_2 (by first | exact bnd i360 (by decide) (by decide) | exact bndd i360 c408 (by decide) (by decide) | exact ⟨by omega, by omega⟩) ) ?_
        rintro _ _ ⟨rfl, h409⟩
        refine ⟨rfl, ?_⟩
        rcases h409 with ⟨rfl, h409⟩
        refine go_toq PM241 (k := 1) (pc' := 30) (L' := [some (.inr (.inr (some 79))), some (.inl p1), some (.inl l12_2)]) (st' := [.inl 1, .inl (dt357 80 (((5540 + (6 * l12_2)) + 0)).toNat), .inr (.inr (some 79))]) (w' := (SH, dt357)) rfl ?_
        refine go_callq PM241 PM198 (Q' := _) rfl rfl rfl rfl (sp_X6_ofChild_1 L xs sio (d + 6) dt357 hI358 (MW_fr hM hF359 (by decide))  (dt357 80 (((5540 + (6 * l12_2)) + 0)).toNat) ⟨by omega, by omega⟩ ) ?_
        rintro _ _ ⟨rfl, h410⟩
        refine ⟨rfl, ?_⟩
        rcases h410 with ⟨rfl, h410⟩
        refine go_toq PM241 (k := 1) (pc' := 35) (L' := [some (.inr (.inr (some 79))), some (.inl p1), some (.inl l12_2)]) (st' := [.inl 6, .inl (dt357 80 (((5380 + (4 * (dt357 80 (((5540 + (6 * l12_2)) + 0)).toNat))) + 1)).toNat)]) (w' := (SH, dt357)) rfl ?_
        refine go_smpq PM241 (L' := [some (.inr (.inr (some 79))), some (.inl p1), some (.inl l12_2)]) (st' := [.inl ((dt357 80 (((5380 + (4 * (dt357 80 (((5540 + (6 * l12_2)) + 0)).toNat))) + 1)).toNat) / 6)]) (w' := (SH, dt357)) rfl rfl (s_idivc ⟨by omega, by omega⟩ ⟨by omega, by omega⟩) ?_
        have j447 : ∀ (j447_d : Nat → Nat → Int) (j447_hI : InvC j447_d) (j447_hF : Fr [79, 88, 89, 90, 91, 92, 93, 94, 95, 96, 97, 98, 99, 100] dt j447_d) (i448 : j447_d 79 2 = dt 79 2) (i449 : j447_d 79 12 = dt 79 12) (i450 : j447_d 79 19 = dt 79 19) (i451 : j447_d 79 21 = dt 79 21), GO (am_XX L xs sio) (d + 7) 241 95 [some (.inr (.inr (some 79))), some (.inl p1), some (.inl l12_2)] [] (SH, j447_d) (fun r w2 => ∃ dt2 : Nat → Nat → Int, w2 = (SH, dt2) ∧ InvC dt2 ∧ Fr [79, 88, 89, 90, 91, 92, 93, 94, 95, 96, 97, 98, 99, 100] dt dt2 ∧ ((r = none ∧ (dt2 79 2 = dt 79 2) ∧ (dt2 79 12 = dt 79 12) ∧ (dt2 79 19 = dt 79 19) ∧ (dt2 79 21 = dt 79 21)))) := by
          intro j447_d j447_hI j447_hF i448 i449 i450 i451
          refine go_toq PM241 (k := 2) (pc' := 12) (L' := [some (.inr (.inr (some 79))), some (.inl p1), some (.inl (l12_2 + 1))]) (st' := []) (w' := (SH, j447_d)) rfl ?_
          exact GO.le (ih_loop365 (l12_2 + 1) j447_d j447_hI j447_hF (by first | exact bndp i360 (by decide) (by decide) | exact bnde i360 c408 (by decide) (by decide) | omega) (by omega) (by omega) (by omega) (by omega) (by omega)) ⟨.inl rfl, .inl rfl, .inl rfl, trivial⟩
        refine go_ifq PM241 (k := 1) (p1 := 95) (p2 := 40) (L' := [some (.inr (.inr (some 79))), some (.inl p1), some (.inl l12_2)]) (st' := []) (w' := (SH, dt357)) rfl (c_ne (a := (dt357 80 (((5380 + (4 * (dt357 80 (((5540 + (6 * l12_2)) + 0)).toNat))) + 1)).toNat) / 6) (b := p1) ⟨by omega, by omega⟩ (by first | exact bnd h_p1 (by decide) (by decide) | exact ⟨by fail, by fail⟩)) (fun c452 => ?_) (fun c452 => ?_)
        · skip
          replace c452 := hid c452
          exact GO.le (j447 dt357 hI358 hF359 (by omega) (by omega) (by omega) (by omega)) ⟨.inl rfl, .inl rfl, .inl rfl, trivial⟩
        · skip
          refine go_toq PM241 (k := 2) (pc' := 42) (L' := [some (.inr (.inr (some 79))), some (.inl p1), some (.inl l12_2)]) (st' := [.inl l12_2, .inr (.inr (some 79))]) (w' := (SH, dt357)) rfl ?_
          refine go_callq PM241 PM229 (Q' := _) rfl rfl rfl rfl (sp_X6_isTelling L xs sio (d + 0) dt357 hI358 (MW_fr hM hF359 (by decide))  l12_2 (by first | exact bnd i360 (by decide) (by decide) | exact bndd i360 c408 (by decide) (by decide) | exact ⟨by omega, by omega⟩) ) ?_
          rintro _ _ ⟨dt454, rfl, hI455, hF456, h453⟩
          refine ⟨rfl, ?_⟩
          have hF457 : Fr [79, 88, 89, 90, 91, 92, 93, 94, 95, 96, 97, 98, 99, 100] dt dt454 := Fr_tr hF359 hF456 (by decide)
          have w458 : dt454 79 2 = dt357 79 2 := hF456 79 (by decide) 2
          have w459 : dt454 79 12 = dt357 79 12 := hF456 79 (by decide) 12
          have w460 : dt454 79 19 = dt357 79 19 := hF456 79 (by decide) 19
          have w461 : dt454 79 21 = dt357 79 21 := hF456 79 (by decide) 21
          rcases h453 with ⟨rfl, h453⟩ | ⟨rfl, h453⟩
          · skip
            have r462 : (-2147483648) ≤ dt454 79 39 ∧ dt454 79 39 ≤ 2147483647 := InvC_get hI455 79 39 rfl rfl
            refine go_toq PM241 (k := 6) (pc' := 58) (L' := [some (.inr (.inr (some 79))), some (.inl p1), some (.inl l12_2)]) (st' := [.inl ((dt454 79 39) + 1), .inr (.inr (some 79))]) (w' := (SH, dt454)) rfl ?_
            have r463 := wr_RR ((dt454 79 39) + 1)
            have hI464 : InvC (u2 dt454 79 39 (wr ((dt454 79 39) + 1))) := InvC_u2 hI455 (lo := -2147483648) (hi := 2147483647) rfl rfl rfl (by omega) (by omega)
            have hF465 : Fr [79, 88, 89, 90, 91, 92, 93, 94, 95, 96, 97, 98, 99, 100] dt (u2 dt454 79 39 (wr ((dt454 79 39) + 1))) := Fr_u2 hF457 (by decide)
            have w466 : (u2 dt454 79 39 (wr ((dt454 79 39) + 1))) 79 2 = dt454 79 2 := rfl
            have w467 : (u2 dt454 79 39 (wr ((dt454 79 39) + 1))) 79 12 = dt454 79 12 := rfl
            have w468 : (u2 dt454 79 39 (wr ((dt454 79 39) + 1))) 79 19 = dt454 79 19 := rfl
            have w469 : (u2 dt454 79 39 (wr ((dt454 79 39) + 1))) 79 21 = dt454 79 21 := rfl
            refine go_smpq PM241 (L' := [some (.inr (.inr (some 79))), some (.inl p1), some (.inl l12_2)]) (st' := []) (w' := (SH, (u2 dt454 79 39 (wr ((dt454 79 39) + 1))))) rfl rfl (s_pfw rfl rfl rfl rfl) ?_
            have r470 : (-2147483648) ≤ dt454 79 40 ∧ dt454 79 40 ≤ 2147483647 := InvC_get hI455 79 40 rfl rfl
            refine go_toq PM241 (k := 6) (pc' := 69) (L' := [some (.inr (.inr (some 79))), some (.inl p1), some (.inl l12_2)]) (st' := [.inl 3, .inl l12_2, .inr (.inr (some 79)), .inl (dt454 79 40), .inr (.inr (some 79))]) (w' := (SH, (u2 dt454 79 39 (wr ((dt454 79 39) + 1))))) rfl ?_
            refine go_callq PM241 PM209 (Q' := _) rfl rfl rfl rfl (sp_X6_ofAnswer_3 L xs sio (d + 6) (u2 dt454 79 39 (wr ((dt454 79 39) + 1))) hI464 (MW_fr hM hF465 (by decide))  l12_2 (by first | exact bnd i360 (by decide) (by decide) | exact bndd i360 c408 (by decide) (by decide) | exact ⟨by omega, by omega⟩) ) ?_
            rintro _ _ ⟨rfl, h471⟩
            refine ⟨rfl, ?_⟩
            rcases h471 with ⟨rfl, h471⟩
            refine go_toq PM241 (k := 4) (pc' := 76) (L' := [some (.inr (.inr (some 79))), some (.inl p1), some (.inl l12_2)]) (st' := [.inl 1, .inl l12_2, .inr (.inr (some 79)), .inr (.inr (some 79)), .inl ((u2 dt454 79 39 (wr ((dt454 79 39) + 1))) 80 (((5540 + (6 * l12_2)) + 3)).toNat), .inl (dt454 79 40), .inr (.inr (some 79))]) (w' := (SH, (u2 dt454 79 39 (wr ((dt454 79 39) + 1))))) rfl ?_
            refine go_callq PM241 PM209 (Q' := _) rfl rfl rfl rfl (sp_X6_ofAnswer_1 L xs sio (d + 6) (u2 dt454 79 39 (wr ((dt454 79 39) + 1))) hI464 (MW_fr hM hF465 (by decide))  l12_2 (by first | exact bnd i360 (by decide) (by decide) | exact bndd i360 c408 (by decide) (by decide) | exact ⟨by omega, by omega⟩) ) ?_
            rintro _ _ ⟨rfl, h472⟩
            refine ⟨rfl, ?_⟩
            rcases h472 with ⟨rfl, h472⟩
            refine go_toq PM241 (k := 1) (pc' := 80) (L' := [some (.inr (.inr (some 79))), some (.inl p1), some (.inl l12_2)]) (st' := [.inl 1, .inl ((u2 dt454 79 39 (wr ((dt454 79 39) + 1))) 80 (((5540 + (6 * l12_2)) + 1)).toNat), .inr (.inr (some 79)), .inl ((u2 dt454 79 39 (wr ((dt454 79 39) + 1))) 80 (((5540 + (6 * l12_2)) + 3)).toNat), .inl (dt454 79 40), .inr (.inr (some 79))]) (w' := (SH, (u2 dt454 79 39 (wr ((dt454 79 39) + 1))))) rfl ?_
            refine go_callq PM241 PM194 (Q' := _) rfl rfl rfl rfl (sp_X6_saysNow L xs sio (d + 5) (u2 dt454 79 39 (wr ((dt454 79 39) + 1))) hI464 (MW_fr hM hF465 (by decide))  ((u2 dt454 79 39 (wr ((dt454 79 39) + 1))) 80 (((5540 + (6 * l12_2)) + 1)).toNat) ⟨by omega, by omega⟩ 1 ⟨by decide, by decide⟩ ) ?_
            rintro _ _ ⟨rfl, h473⟩
            refine ⟨rfl, ?_⟩
            rcases h473 with ⟨v_h473, rfl, h473r, h473⟩
            refine go_ifq PM241 (k := 0) (p1 := 90) (p2 := 86) (L' := [some (.inr (.inr (some 79))), some (.inl p1), some (.inl l12_2)]) (st' := [.inl (dt454 79 40), .inr (.inr (some 79))]) (w' := (SH, (u2 dt454 79 39 (wr ((dt454 79 39) + 1))))) rfl (c_ne (a := (u2 dt454 79 39 (wr ((dt454 79 39) + 1))) 80 (((5540 + (6 * l12_2)) + 3)).toNat) (b := v_h473) ⟨by omega, by omega⟩ (by first | exact bnd h473r (by decide) (by decide) | exact ⟨by fail, by fail⟩)) (fun c475 => ?_) (fun c475 => ?_)
            · skip
              replace c475 := hid c475
              refine go_toq PM241 (k := 2) (pc' := 92) (L' := [some (.inr (.inr (some 79))), some (.inl p1), some (.inl l12_2)]) (st' := [.inl ((dt454 79 40) + 0), .inr (.inr (some 79))]) (w' := (SH, (u2 dt454 79 39 (wr ((dt454 79 39) + 1))))) rfl ?_
              have hI476 : InvC (u2 (u2 dt454 79 39 (wr ((dt454 79 39) + 1))) 79 40 ((dt454 79 40) + 0)) := InvC_u2 hI464 (lo := -2147483648) (hi := 2147483647) rfl rfl rfl (by omega) (by omega)
              have hF477 : Fr [79, 88, 89, 90, 91, 92, 93, 94, 95, 96, 97, 98, 99, 100] dt (u2 (u2 dt454 79 39 (wr ((dt454 79 39) + 1))) 79 40 ((dt454 79 40) + 0)) := Fr_u2 hF465 (by decide)
              have w478 : (u2 (u2 dt454 79 39 (wr ((dt454 79 39) + 1))) 79 40 ((dt454 79 40) + 0)) 79 2 = (u2 dt454 79 39 (wr ((dt454 79 39) + 1))) 79 2 := rfl
              have w479 : (u2 (u2 dt454 79 39 (wr ((dt454 79 39) + 1))) 79 40 ((dt454 79 40) + 0)) 79 12 = (u2 dt454 79 39 (wr ((dt454 79 39) + 1))) 79 12 := rfl
              have w480 : (u2 (u2 dt454 79 39 (wr ((dt454 79 39) + 1))) 79 40 ((dt454 79 40) + 0)) 79 19 = (u2 dt454 79 39 (wr ((dt454 79 39) + 1))) 79 19 := rfl
              have w481 : (u2 (u2 dt454 79 39 (wr ((dt454 79 39) + 1))) 79 40 ((dt454 79 40) + 0)) 79 21 = (u2 dt454 79 39 (wr ((dt454 79 39) + 1))) 79 21 := rfl
              refine go_smpq PM241 (L' := [some (.inr (.inr (some 79))), some (.inl p1), some (.inl l12_2)]) (st' := []) (w' := (SH, (u2 (u2 dt454 79 39 (wr ((dt454 79 39) + 1))) 79 40 ((dt454 79 40) + 0)))) rfl rfl (s_pf rfl rfl rfl rfl (by first | exact bndp r470 (by decide) (by decide) | exact ⟨by fail, by fail⟩)) ?_
              exact GO.le (j447 (u2 (u2 dt454 79 39 (wr ((dt454 79 39) + 1))) 79 40 ((dt454 79 40) + 0)) hI476 hF477 (by omega) (by omega) (by omega) (by omega)) ⟨.inl rfl, .inl rfl, .inl rfl, trivial⟩
            · skip
              refine go_toq PM241 (k := 3) (pc' := 92) (L' := [some (.inr (.inr (some 79))), some (.inl p1), some (.inl l12_2)]) (st' := [.inl ((dt454 79 40) + 1), .inr (.inr (some 79))]) (w' := (SH, (u2 dt454 79 39 (wr ((dt454 79 39) + 1))))) rfl ?_
              have r482 := wr_RR ((dt454 79 40) + 1)
              have hI483 : InvC (u2 (u2 dt454 79 39 (wr ((dt454 79 39) + 1))) 79 40 (wr ((dt454 79 40) + 1))) := InvC_u2 hI464 (lo := -2147483648) (hi := 2147483647) rfl rfl rfl (by omega) (by omega)
              have hF484 : Fr [79, 88, 89, 90, 91, 92, 93, 94, 95, 96, 97, 98, 99, 100] dt (u2 (u2 dt454 79 39 (wr ((dt454 79 39) + 1))) 79 40 (wr ((dt454 79 40) + 1))) := Fr_u2 hF465 (by decide)
              have w485 : (u2 (u2 dt454 79 39 (wr ((dt454 79 39) + 1))) 79 40 (wr ((dt454 79 40) + 1))) 79 2 = (u2 dt454 79 39 (wr ((dt454 79 39) + 1))) 79 2 := rfl
              have w486 : (u2 (u2 dt454 79 39 (wr ((dt454 79 39) + 1))) 79 40 (wr ((dt454 79 40) + 1))) 79 12 = (u2 dt454 79 39 (wr ((dt454 79 39) + 1))) 79 12 := rfl
              have w487 : (u2 (u2 dt454 79 39 (wr ((dt454 79 39) + 1))) 79 40 (wr ((dt454 79 40) + 1))) 79 19 = (u2 dt454 79 39 (wr ((dt454 79 39) + 1))) 79 19 := rfl
              have w488 : (u2 (u2 dt454 79 39 (wr ((dt454 79 39) + 1))) 79 40 (wr ((dt454 79 40) + 1))) 79 21 = (u2 dt454 79 39 (wr ((dt454 79 39) + 1))) 79 21 := rfl
              refine go_smpq PM241 (L' := [some (.inr (.inr (some 79))), some (.inl p1), some (.inl l12_2)]) (st' := []) (w' := (SH, (u2 (u2 dt454 79 39 (wr ((dt454 79 39) + 1))) 79 40 (wr ((dt454 79 40) + 1))))) rfl rfl (s_pfw rfl rfl rfl rfl) ?_
              exact GO.le (j447 (u2 (u2 dt454 79 39 (wr ((dt454 79 39) + 1))) 79 40 (wr ((dt454 79 40) + 1))) hI483 hF484 (by omega) (by omega) (by omega) (by omega)) ⟨.inl rfl, .inl rfl, .inl rfl, trivial⟩
          · skip
            refine go_toq PM241 (k := 2) (pc' := 95) (L' := [some (.inr (.inr (some 79))), some (.inl p1), some (.inl l12_2)]) (st' := []) (w' := (SH, dt454)) rfl ?_
            exact GO.le (j447 dt454 hI455 hF457 (by omega) (by omega) (by omega) (by omega)) ⟨.inl rfl, .inl rfl, .inl rfl, trivial⟩
  exact GO.le (loop365 _ 0 (u2 (u2 dt 79 39 0) 79 40 0) hI7 hF8 ⟨by decide, by decide⟩ (by omega) (by omega) (by omega) (by omega) (Nat.lt_succ_self _)) ⟨.inl rfl, .inl rfl, .inl rfl, trivial⟩
set_option maxRecDepth 20000 in
theorem sp_X6_curve_k (L : Nat) (xs : Nat → Int32) (sio : Option Nat) (d : Nat) (dt : Nat → Nat → Int) (hI : InvC dt) (hM : MW (dt 80))  (p1 : Int) (h_p1 : (-2147483648) ≤ p1 ∧ p1 ≤ 2147483647) (p2 : Int) (h_p2 : (-2147483648) ≤ p2 ∧ p2 ≤ 2147483647)  : GO (am_XX L xs sio) (d + 8) 242 0 [some (.inr (.inr (some 79))), some (.inl p1), some (.inl p2), none, none] [] (SH, dt) (fun r w2 => ∃ dt2 : Nat → Nat → Int, w2 = (SH, dt2) ∧ InvC dt2 ∧ Fr [79, 88, 89, 90, 91, 92, 93, 94, 95, 96, 97, 98, 99, 100] dt dt2 ∧ ((∃ v : Int, r = some (.inl v) ∧ ((-2147483648) ≤ v ∧ v ≤ 2147483647) ∧ (dt2 79 2 = dt 79 2) ∧ (dt2 79 12 = dt 79 12) ∧ (dt2 79 19 = dt 79 19) ∧ (dt2 79 21 = dt 79 21)))) := by
  have hF : Fr [79, 88, 89, 90, 91, 92, 93, 94, 95, 96, 97, 98, 99, 100] dt dt := Fr_refl
  refine go_ifq PM242 (k := 2) (p1 := 58) (p2 := 5) (L' := [some (.inr (.inr (some 79))), some (.inl p1), some (.inl p2), none, none]) (st' := []) (w' := (SH, dt)) rfl (c_ne (a := p1) (b := (-1)) (by first | exact bnd h_p1 (by decide) (by decide) | exact ⟨by fail, by fail⟩) ⟨by decide, by decide⟩) (fun c1 => ?_) (fun c1 => ?_)
  · skip
    replace c1 := hid c1
    refine go_toq PM242 (k := 3) (pc' := 62) (L' := [some (.inr (.inr (some 79))), some (.inl p1), some (.inl p2), none, none]) (st' := [.inl 20, .inl 0, .inl p1]) (w' := (SH, dt)) rfl ?_
    refine go_callq PM242 PM146 (Q' := _) rfl rfl rfl rfl (sp_X6_isIn L xs sio (d + 7) dt hI  p1 (by first | exact h_p1 | exact bnd h_p1 (by decide) (by decide) | exact ⟨by fail, by fail⟩) 0 ⟨by decide, by decide⟩ 20 ⟨by decide, by decide⟩ ) ?_
    rintro _ _ ⟨rfl, h2⟩
    refine ⟨rfl, ?_⟩
    rcases h2 with ⟨rfl, h2⟩ | ⟨rfl, h2⟩
    · skip
      refine go_toq PM242 (k := 4) (pc' := 71) (L' := [some (.inr (.inr (some 79))), some (.inl p1), some (.inl p2), none, none]) (st' := [.inl 1, .inl 0, .inl p2]) (w' := (SH, dt)) rfl ?_
      refine go_callq PM242 PM146 (Q' := _) rfl rfl rfl rfl (sp_X6_isIn L xs sio (d + 7) dt hI  p2 (by first | exact h_p2 | exact bnd h_p2 (by decide) (by decide) | exact ⟨by fail, by fail⟩) 0 ⟨by decide, by decide⟩ 1 ⟨by decide, by decide⟩ ) ?_
      rintro _ _ ⟨rfl, h3⟩
      refine ⟨rfl, ?_⟩
      rcases h3 with ⟨rfl, h3⟩ | ⟨rfl, h3⟩
      · skip
        refine go_toq PM242 (k := 3) (pc' := 82) (L' := [some (.inr (.inr (some 79))), some (.inl p1), some (.inl p2), none, none]) (st' := [.inl p1, .inr (.inr (some 79))]) (w' := (SH, dt)) rfl ?_
        refine go_callq PM242 PM241 (Q' := _) rfl rfl rfl rfl (sp_X6_curves_k L xs sio (d + 0) dt hI hM  p1 (by first | exact h_p1 | exact bnd h_p1 (by decide) (by decide) | exact ⟨by omega, by omega⟩) ) ?_
        rintro _ _ ⟨dt5, rfl, hI6, hF7, h4⟩
        refine ⟨rfl, ?_⟩
        have hF8 : Fr [79, 88, 89, 90, 91, 92, 93, 94, 95, 96, 97, 98, 99, 100] dt dt5 := Fr_tr hF hF7 (by decide)
        rcases h4 with ⟨rfl, h4⟩
        have j12 : ∀ (j12_s0 : Int) (i13 : (-2147483648) ≤ j12_s0 ∧ j12_s0 ≤ 2147483647), GO (am_XX L xs sio) (d + 8) 242 100 [some (.inr (.inr (some 79))), none, none, none, none] [.inl j12_s0] (SH, dt5) (fun r w2 => ∃ dt2 : Nat → Nat → Int, w2 = (SH, dt2) ∧ InvC dt2 ∧ Fr [79, 88, 89, 90, 91, 92, 93, 94, 95, 96, 97, 98, 99, 100] dt dt2 ∧ ((∃ v : Int, r = some (.inl v) ∧ ((-2147483648) ≤ v ∧ v ≤ 2147483647) ∧ (dt2 79 2 = dt 79 2) ∧ (dt2 79 12 = dt 79 12) ∧ (dt2 79 19 = dt 79 19) ∧ (dt2 79 21 = dt 79 21)))) := by
          intro j12_s0 i13
          refine go_retq PM242 (k := 0) (r := some (.inl j12_s0)) (w1 := (SH, dt5)) rfl ?_
          exact ⟨dt5, rfl, hI6, hF8, ⟨_, rfl, (by first | exact bnd i13 (by decide) (by decide) | exact ⟨by fail, by fail⟩), ⟨by first | exact True.intro | with_reducible assumption | exact unhid (by with_reducible assumption) | rfl | omega | trivial, by first | exact True.intro | with_reducible assumption | exact unhid (by with_reducible assumption) | rfl | omega | trivial, by first | exact True.intro | with_reducible assumption | exact unhid (by with_reducible assumption) | rfl | omega | trivial, by first | exact True.intro | with_reducible assumption | exact unhid (by with_reducible assumption) | rfl | omega | trivial⟩⟩⟩
        refine go_ifq PM242 (k := 1) (p1 := 96) (p2 := 89) (L' := [some (.inr (.inr (some 79))), some (.inl p1), some (.inl p2), none, none]) (st' := []) (w' := (SH, dt5)) rfl (z_ne (a := p2) (by first | exact bnd h_p2 (by decide) (by decide) | exact ⟨by fail, by fail⟩)) (fun c14 => ?_) (fun c14 => ?_)
        · skip
          replace c14 := hid c14
          have r15 : (-2147483648) ≤ dt5 79 40 ∧ dt5 79 40 ≤ 2147483647 := InvC_get hI6 79 40 rfl rfl
          refine go_toq PM242 (k := 2) (pc' := 100) (L' := [some (.inr (.inr (some 79))), some (.inl p1), some (.inl p2), none, none]) (st' := [.inl (dt5 79 40)]) (w' := (SH, dt5)) rfl ?_
          exact GO.le (j12 (dt5 79 40) (by first | exact bnd r15 (by decide) (by decide) | fail)) ⟨.inl rfl, .inr ⟨rfl, trivial⟩, .inr ⟨rfl, trivial⟩, .inl rfl, .inl rfl, trivial⟩
        · skip
          have r16 : (-2147483648) ≤ dt5 79 39 ∧ dt5 79 39 ≤ 2147483647 := InvC_get hI6 79 39 rfl rfl
          refine go_toq PM242 (k := 3) (pc' := 100) (L' := [some (.inr (.inr (some 79))), some (.inl p1), some (.inl p2), none, none]) (st' := [.inl (dt5 79 39)]) (w' := (SH, dt5)) rfl ?_
          exact GO.le (j12 (dt5 79 39) (by first | exact bnd r16 (by decide) (by decide) | fail)) ⟨.inl rfl, .inr ⟨rfl, trivial⟩, .inr ⟨rfl, trivial⟩, .inl rfl, .inl rfl, trivial⟩
      · skip
        refine go_retq PM242 (k := 2) (r := some (.inl (-2))) (w1 := (SH, dt)) rfl ?_
        exact ⟨dt, rfl, hI, hF, ⟨_, rfl, ⟨by decide, by decide⟩, ⟨by first | exact True.intro | with_reducible assumption | exact unhid (by with_reducible assumption) | rfl | fail | trivial, by first | exact True.intro | with_reducible assumption | exact unhid (by with_reducible assumption) | rfl | fail | trivial, by first | exact True.intro | with_reducible assumption | exact unhid (by with_reducible assumption) | rfl | fail | trivial, by first | exact True.intro | with_reducible assumption | exact unhid (by with_reducible assumption) | rfl | fail | trivial⟩⟩⟩
    · skip
      refine go_retq PM242 (k := 2) (r := some (.inl (-2))) (w1 := (SH, dt)) rfl ?_
      exact ⟨dt, rfl, hI, hF, ⟨_, rfl, ⟨by decide, by decide⟩, ⟨by first | exact True.intro | with_reducible assumption | exact unhid (by with_reducible assumption) | rfl | fail | trivial, by first | exact True.intro | with_reducible assumption | exact unhid (by with_reducible assumption) | rfl | fail | trivial, by first | exact True.intro | with_reducible assumption | exact unhid (by with_reducible assumption) | rfl | fail | trivial, by first | exact True.intro | with_reducible assumption | exact unhid (by with_reducible assumption) | rfl | fail | trivial⟩⟩⟩
  · skip
    refine go_toq PM242 (k := 4) (pc' := 11) (L' := [some (.inr (.inr (some 79))), some (.inl p1), some (.inl p2), some (.inl (-1)), some (.inl 20)]) (st' := []) (w' := (SH, dt)) rfl ?_
    have loop143 : ∀ (k_ : Nat) (l11_3 : Int) (l11_4 : Int) (dt134 : Nat → Nat → Int) (hI135 : InvC dt134) (hF136 : Fr [79, 88, 89, 90, 91, 92, 93, 94, 95, 96, 97, 98, 99, 100] dt dt134) (i137 : (-1) ≤ l11_3 ∧ l11_3 ≤ 20) (i138 : (-1) ≤ l11_4 ∧ l11_4 ≤ 20) (i139 : dt134 79 2 = dt 79 2) (i140 : dt134 79 12 = dt 79 12) (i141 : dt134 79 19 = dt 79 19) (i142 : dt134 79 21 = dt 79 21), (l11_4 + 2).toNat < k_ → GO (am_XX L xs sio) (d + 8) 242 11 [some (.inr (.inr (some 79))), none, none, some (.inl l11_3), some (.inl l11_4)] [] (SH, dt134) (fun r w2 => ∃ dt2 : Nat → Nat → Int, w2 = (SH, dt2) ∧ InvC dt2 ∧ Fr [79, 88, 89, 90, 91, 92, 93, 94, 95, 96, 97, 98, 99, 100] dt dt2 ∧ ((∃ v : Int, r = some (.inl v) ∧ ((-2147483648) ≤ v ∧ v ≤ 2147483647) ∧ (dt2 79 2 = dt 79 2) ∧ (dt2 79 12 = dt 79 12) ∧ (dt2 79 19 = dt 79 19) ∧ (dt2 79 21 = dt 79 21)))) := by
      intro k_
      induction k_ with
      | zero => intro l11_3 l11_4 dt134 hI135 hF136 i137 i138 i139 i140 i141 i142 hm; exact absurd hm (Nat.not_lt_zero _)
      | succ k_ ih_loop143 =>
        intro l11_3 l11_4 dt134 hI135 hF136 i137 i138 i139 i140 i141 i142 hm
        refine go_ifq PM242 (k := 1) (p1 := 56) (p2 := 16) (L' := [some (.inr (.inr (some 79))), none, none, some (.inl l11_3), some (.inl l11_4)]) (st' := []) (w' := (SH, dt134)) rfl (z_lt (a := l11_4) (by first | exact bnd i138 (by decide) (by decide) | exact ⟨by fail, by fail⟩)) (fun c144 => ?_) (fun c144 => ?_)
        · skip
          refine go_retq PM242 (k := 1) (r := some (.inl l11_3)) (w1 := (SH, dt134)) rfl ?_
          exact ⟨dt134, rfl, hI135, hF136, ⟨_, rfl, (by first | exact bnd i137 (by decide) (by decide) | exact ⟨by fail, by fail⟩), ⟨by first | exact True.intro | with_reducible assumption | rfl | fail | trivial, by first | exact True.intro | with_reducible assumption | rfl | fail | trivial, by first | exact True.intro | with_reducible assumption | rfl | fail | trivial, by first | exact True.intro | with_reducible assumption | rfl | fail | trivial⟩⟩⟩
        · skip
          refine go_toq PM242 (k := 2) (pc' := 19) (L' := [some (.inr (.inr (some 79))), none, none, some (.inl l11_3), some (.inl l11_4)]) (st' := [.inl l11_4, .inr (.inr (some 79))]) (w' := (SH, dt134)) rfl ?_
          refine go_callq PM242 PM241 (Q' := _) rfl rfl rfl rfl (sp_X6_curves_k L xs sio (d + 0) dt134 hI135 (MW_fr hM hF136 (by decide))  l11_4 (by first | exact bnd i138 (by decide) (by decide) | exact ⟨by fail, by fail⟩) ) ?_
          rintro _ _ ⟨dt146, rfl, hI147, hF148, h145⟩
          refine ⟨rfl, ?_⟩
          have hF149 : Fr [79, 88, 89, 90, 91, 92, 93, 94, 95, 96, 97, 98, 99, 100] dt dt146 := Fr_tr hF136 hF148 (by decide)
          rcases h145 with ⟨rfl, h145⟩
          have r150 : (-2147483648) ≤ dt146 79 39 ∧ dt146 79 39 ≤ 2147483647 := InvC_get hI147 79 39 rfl rfl
          refine go_ifq PM242 (k := 2) (p1 := 32) (p2 := 29) (L' := [some (.inr (.inr (some 79))), none, none, some (.inl l11_3), some (.inl l11_4)]) (st' := []) (w' := (SH, dt146)) rfl (z_ne (a := dt146 79 39) (by first | exact bnd r150 (by decide) (by decide) | exact ⟨by fail, by fail⟩)) (fun c151 => ?_) (fun c151 => ?_)
          · skip
            replace c151 := hid c151
            have r152 : (-2147483648) ≤ dt146 79 40 ∧ dt146 79 40 ≤ 2147483647 := InvC_get hI147 79 40 rfl rfl
            have r154 := wr_RR (2 * (dt146 79 40))
            have r155 := wr_RR (dt146 79 39)
            refine go_ifq PM242 (k := 6) (p1 := 47) (p2 := 45) (L' := [some (.inr (.inr (some 79))), none, none, some (.inl l11_3), some (.inl l11_4)]) (st' := []) (w' := (SH, dt146)) rfl (u_ge (a := wr (2 * (dt146 79 40))) (b := wr (dt146 79 39))) (fun c153 => ?_) (fun c153 => ?_)
            · skip
              refine go_toq PM242 (k := 4) (pc' := 11) (L' := [some (.inr (.inr (some 79))), none, none, some (.inl l11_4), some (.inl (l11_4 + (-1)))]) (st' := []) (w' := (SH, dt146)) rfl ?_
              exact GO.le (ih_loop143 l11_4 (l11_4 + (-1)) dt146 hI147 hF149 (by first | exact bnd i138 (by decide) (by decide) | fail) (by omega) (by omega) (by omega) (by omega) (by omega) (by omega)) ⟨.inl rfl, .inl rfl, .inl rfl, .inl rfl, .inl rfl, trivial⟩
            · skip
              refine go_retq PM242 (k := 1) (r := some (.inl l11_3)) (w1 := (SH, dt146)) rfl ?_
              exact ⟨dt146, rfl, hI147, hF149, ⟨_, rfl, (by first | exact bnd i137 (by decide) (by decide) | exact ⟨by fail, by fail⟩), ⟨by first | exact True.intro | with_reducible assumption | exact unhid (by with_reducible assumption) | rfl | omega | trivial, by first | exact True.intro | with_reducible assumption | exact unhid (by with_reducible assumption) | rfl | omega | trivial, by first | exact True.intro | with_reducible assumption | exact unhid (by with_reducible assumption) | rfl | omega | trivial, by first | exact True.intro | with_reducible assumption | exact unhid (by with_reducible assumption) | rfl | omega | trivial⟩⟩⟩
          · skip
            refine go_toq PM242 (k := 3) (pc' := 11) (L' := [some (.inr (.inr (some 79))), none, none, some (.inl l11_3), some (.inl (l11_4 + (-1)))]) (st' := []) (w' := (SH, dt146)) rfl ?_
            exact GO.le (ih_loop143 l11_3 (l11_4 + (-1)) dt146 hI147 hF149 (by first | exact bnd i137 (by decide) (by decide) | fail) (by omega) (by omega) (by omega) (by omega) (by omega) (by omega)) ⟨.inl rfl, .inl rfl, .inl rfl, .inl rfl, .inl rfl, trivial⟩
    exact GO.le (loop143 _ (-1) 20 dt hI hF ⟨by decide, by decide⟩ ⟨by decide, by decide⟩ (by omega) (by omega) (by omega) (by omega) (Nat.lt_succ_self _)) ⟨.inl rfl, .inr ⟨rfl, trivial⟩, .inr ⟨rfl, trivial⟩, .inl rfl, .inl rfl, trivial⟩
