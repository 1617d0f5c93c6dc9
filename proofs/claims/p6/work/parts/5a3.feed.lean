theorem sp_X1_take_f (L : Nat) (xs : Nat → Int32) (sio : Option Nat) (d : Nat) (dt : Nat → Nat → Int) (hI : InvC dt)  (p1 : Int) (h_p1 : (-2147483648) ≤ p1 ∧ p1 ≤ 2147483647) (h_p0 : dt 35 1 ≤ 496) : GO (am_XX L xs sio) (d) 7 0 [some (.inr (.inr (some 35))), some (.inl p1), none] [] (SH, dt) (fun r w2 => ∃ dt2 : Nat → Nat → Int, w2 = (SH, dt2) ∧ InvC dt2 ∧ Fr [35, 36] dt dt2 ∧ ((r = none ∧ (dt2 35 1 = dt 35 1 + 4) ∧ (FDX (fun j => am_and (dt 36 j) 255) (fun j => am_and (dt2 36 j) 255) (dt 35 1) (dt2 35 1) (BYT p1)) ∧ (dt2 35 2 = dt 35 2) ∧ (dt2 35 3 = dt 35 3)))) := by
  have hF : Fr [35, 36] dt dt := Fr_refl
  have r1 : 0 ≤ dt 35 1 ∧ dt 35 1 ≤ 500 := InvC_get hI 35 1 rfl rfl
  refine go_to (k := 2) (pc' := 3) (L' := [some (.inr (.inr (some 35))), some (.inl p1), some (.inl 24)]) (st' := []) (w' := (SH, dt)) (fun _ => rfl) ?_
  have loop29 : ∀ (k_ : Nat) (l3_2 : Int) (dt21 : Nat → Nat → Int) (hI22 : InvC dt21) (hF23 : Fr [35, 36] dt dt21) (i24 : (-8) ≤ l3_2 ∧ l3_2 ≤ 24) (i25 : 8 * dt21 35 1 = 8 * dt 35 1 + (24 - l3_2)) (i26 : FDX (fun j => am_and (dt 36 j) 255) (fun j => am_and (dt21 36 j) 255) (dt 35 1) (dt21 35 1) (BYT p1)) (i27 : dt21 35 2 = dt 35 2) (i28 : dt21 35 3 = dt 35 3), (l3_2 + 9).toNat < k_ → GO (am_XX L xs sio) (d) 7 3 [some (.inr (.inr (some 35))), some (.inl p1), some (.inl l3_2)] [] (SH, dt21) (fun r w2 => ∃ dt2 : Nat → Nat → Int, w2 = (SH, dt2) ∧ InvC dt2 ∧ Fr [35, 36] dt dt2 ∧ ((r = none ∧ (dt2 35 1 = dt 35 1 + 4) ∧ (FDX (fun j => am_and (dt 36 j) 255) (fun j => am_and (dt2 36 j) 255) (dt 35 1) (dt2 35 1) (BYT p1)) ∧ (dt2 35 2 = dt 35 2) ∧ (dt2 35 3 = dt 35 3)))) := by
    intro k_
    induction k_ with
    | zero => intro l3_2 dt21 hI22 hF23 i24 i25 i26 i27 i28 hm; exact absurd hm (Nat.not_lt_zero _)
    | succ k_ ih_loop29 =>
      intro l3_2 dt21 hI22 hF23 i24 i25 i26 i27 i28 hm
      have qF := i26
      refine go_if (k := 2) (p1 := 46) (p2 := 7) (L' := [some (.inr (.inr (some 35))), some (.inl p1), some (.inl l3_2)]) (st' := []) (w' := (SH, dt21)) (fun _ => rfl) (z_lt (a := l3_2) ⟨by omega, by omega⟩) (fun c30 => ?_) (fun c30 => ?_)
      · skip
        refine go_ret (k := 1) (r := none) (w1 := (SH, dt21)) (fun _ => rfl) ?_
        exact ⟨dt21, rfl, hI22, hF23, ⟨rfl, ⟨by first | trivial | omega, by first | exact qF | assumption, by first | trivial | omega, by first | trivial | omega⟩⟩⟩
      · skip
        have r31 : 0 ≤ dt21 35 1 ∧ dt21 35 1 ≤ 500 := InvC_get hI22 35 1 rfl rfl
        refine go_if (k := 4) (p1 := 46) (p2 := 17) (L' := [some (.inr (.inr (some 35))), some (.inl p1), some (.inl l3_2)]) (st' := []) (w' := (SH, dt21)) (fun _ => rfl) (c_ge (a := dt21 35 1) (b := 500) ⟨by omega, by omega⟩ ⟨by omega, by omega⟩) (fun c32 => ?_) (fun c32 => ?_)
        · skip
          refine go_ret (k := 1) (r := none) (w1 := (SH, dt21)) (fun _ => rfl) ?_
          exact ⟨dt21, rfl, hI22, hF23, ⟨rfl, ⟨by first | trivial | omega, by first | exact qF | assumption, by first | trivial | omega, by first | trivial | omega⟩⟩⟩
        · skip
          have r33 : -2147483648 ≤ am_shr p1 l3_2 ∧ am_shr p1 l3_2 ≤ 2147483647 := am_shr_R
          have r34 := i2b_R (am_shr p1 l3_2)
          refine go_to (k := 8) (pc' := 29) (L' := [some (.inr (.inr (some 35))), some (.inl p1), some (.inl l3_2)]) (st' := [.inl (am_i2b (am_shr p1 l3_2)), .inl (dt21 35 1), .inr (.inr (some 36))]) (w' := (SH, dt21)) (fun _ => rfl) ?_
          have r35 := i2b_R (am_i2b (am_shr p1 l3_2))
          have hI36 : InvC (u2 dt21 36 ((dt21 35 1).toNat) (am_i2b (am_i2b (am_shr p1 l3_2)))) := InvC_u2 hI22 (lo := -128) (hi := 127) rfl rfl rfl (by omega) (by omega)
          have hF37 : Fr [35, 36] dt (u2 dt21 36 ((dt21 35 1).toNat) (am_i2b (am_i2b (am_shr p1 l3_2)))) := Fr_u2 hF23 (by decide)
          have w38 : (u2 dt21 36 ((dt21 35 1).toNat) (am_i2b (am_i2b (am_shr p1 l3_2)))) 35 1 = dt21 35 1 := rfl
          have w39 : (u2 dt21 36 ((dt21 35 1).toNat) (am_i2b (am_i2b (am_shr p1 l3_2)))) 35 2 = dt21 35 2 := rfl
          have w40 : (u2 dt21 36 ((dt21 35 1).toNat) (am_i2b (am_i2b (am_shr p1 l3_2)))) 35 3 = dt21 35 3 := rfl
          have k41 : ∀ j : Nat, ¬ (j : Int) = dt21 35 1 → am_and ((u2 dt21 36 ((dt21 35 1).toNat) (am_i2b (am_i2b (am_shr p1 l3_2)))) 36 j) 255 = am_and (dt21 36 j) 255 := fun j hj => by rw [u2_ne (by omega)]
          have k42 : (u2 dt21 36 ((dt21 35 1).toNat) (am_i2b (am_i2b (am_shr p1 l3_2)))) 36 (dt21 35 1).toNat = am_i2b (am_i2b (am_shr p1 l3_2)) := u2_eq
          refine go_smp (L' := [some (.inr (.inr (some 35))), some (.inl p1), some (.inl l3_2)]) (st' := []) (w' := (SH, (u2 dt21 36 ((dt21 35 1).toNat) (am_i2b (am_i2b (am_shr p1 l3_2)))))) rfl rfl (s_bast (n := 500) rfl ⟨by omega, by omega⟩) ?_
          refine go_to (k := 5) (pc' := 37) (L' := [some (.inr (.inr (some 35))), some (.inl p1), some (.inl l3_2)]) (st' := [.inl ((dt21 35 1) + 1), .inr (.inr (some 35))]) (w' := (SH, (u2 dt21 36 ((dt21 35 1).toNat) (am_i2b (am_i2b (am_shr p1 l3_2)))))) (fun _ => rfl) ?_
          have hI43 : InvC (u2 (u2 dt21 36 ((dt21 35 1).toNat) (am_i2b (am_i2b (am_shr p1 l3_2)))) 35 1 ((dt21 35 1) + 1)) := InvC_u2 hI36 (lo := 0) (hi := 500) rfl rfl rfl (by omega) (by omega)
          have hF44 : Fr [35, 36] dt (u2 (u2 dt21 36 ((dt21 35 1).toNat) (am_i2b (am_i2b (am_shr p1 l3_2)))) 35 1 ((dt21 35 1) + 1)) := Fr_u2 hF37 (by decide)
          have w45 : (u2 (u2 dt21 36 ((dt21 35 1).toNat) (am_i2b (am_i2b (am_shr p1 l3_2)))) 35 1 ((dt21 35 1) + 1)) 35 1 = (dt21 35 1) + 1 := rfl
          have w46 : (u2 (u2 dt21 36 ((dt21 35 1).toNat) (am_i2b (am_i2b (am_shr p1 l3_2)))) 35 1 ((dt21 35 1) + 1)) 35 2 = (u2 dt21 36 ((dt21 35 1).toNat) (am_i2b (am_i2b (am_shr p1 l3_2)))) 35 2 := rfl
          have w47 : (u2 (u2 dt21 36 ((dt21 35 1).toNat) (am_i2b (am_i2b (am_shr p1 l3_2)))) 35 1 ((dt21 35 1) + 1)) 35 3 = (u2 dt21 36 ((dt21 35 1).toNat) (am_i2b (am_i2b (am_shr p1 l3_2)))) 35 3 := rfl
          refine go_smp (L' := [some (.inr (.inr (some 35))), some (.inl p1), some (.inl l3_2)]) (st' := []) (w' := (SH, (u2 (u2 dt21 36 ((dt21 35 1).toNat) (am_i2b (am_i2b (am_shr p1 l3_2)))) 35 1 ((dt21 35 1) + 1)))) rfl rfl (s_pf rfl rfl rfl rfl ⟨by omega, by omega⟩) ?_
          refine go_to (k := 2) (pc' := 3) (L' := [some (.inr (.inr (some 35))), some (.inl p1), some (.inl (l3_2 + (-8)))]) (st' := []) (w' := (SH, (u2 (u2 dt21 36 ((dt21 35 1).toNat) (am_i2b (am_i2b (am_shr p1 l3_2)))) 35 1 ((dt21 35 1) + 1)))) (fun _ => rfl) ?_
          exact GO.le (ih_loop29 (l3_2 + (-8)) (u2 (u2 dt21 36 ((dt21 35 1).toNat) (am_i2b (am_i2b (am_shr p1 l3_2)))) 35 1 ((dt21 35 1) + 1)) hI43 hF44 (by first | omega | exact FDX_0 | exact FDX_s qF (by omega) (by omega) (fun j hj => k41 j hj) (congrArg (fun z_ => am_and z_ 255) k42) (BYT_c rfl (by omega) (by omega) (by omega)) (by omega)) (by first | omega | exact FDX_0 | exact FDX_s qF (by omega) (by omega) (fun j hj => k41 j hj) (congrArg (fun z_ => am_and z_ 255) k42) (BYT_c rfl (by omega) (by omega) (by omega)) (by omega)) (by first | omega | exact FDX_0 | exact FDX_s qF (by omega) (by omega) (fun j hj => k41 j hj) (congrArg (fun z_ => am_and z_ 255) k42) (BYT_c rfl (by omega) (by omega) (by omega)) (by omega)) (by first | omega | exact FDX_0 | exact FDX_s qF (by omega) (by omega) (fun j hj => k41 j hj) (congrArg (fun z_ => am_and z_ 255) k42) (BYT_c rfl (by omega) (by omega) (by omega)) (by omega)) (by first | omega | exact FDX_0 | exact FDX_s qF (by omega) (by omega) (fun j hj => k41 j hj) (congrArg (fun z_ => am_and z_ 255) k42) (BYT_c rfl (by omega) (by omega) (by omega)) (by omega)) (by omega)) ⟨.inl rfl, .inl rfl, .inl rfl, trivial⟩
  exact GO.le (loop29 _ 24 dt hI hF (by first | omega | exact FDX_0 | exact FDX_s qF (by omega) (by omega) (fun j hj => hI j hj) (congrArg (fun z_ => am_and z_ 255) hI) (BYT_c rfl (by omega) (by omega) (by omega)) (by omega)) (by first | omega | exact FDX_0 | exact FDX_s qF (by omega) (by omega) (fun j hj => hI j hj) (congrArg (fun z_ => am_and z_ 255) hI) (BYT_c rfl (by omega) (by omega) (by omega)) (by omega)) (by first | omega | exact FDX_0 | exact FDX_s qF (by omega) (by omega) (fun j hj => hI j hj) (congrArg (fun z_ => am_and z_ 255) hI) (BYT_c rfl (by omega) (by omega) (by omega)) (by omega)) (by first | omega | exact FDX_0 | exact FDX_s qF (by omega) (by omega) (fun j hj => hI j hj) (congrArg (fun z_ => am_and z_ 255) hI) (BYT_c rfl (by omega) (by omega) (by omega)) (by omega)) (by first | omega | exact FDX_0 | exact FDX_s qF (by omega) (by omega) (fun j hj => hI j hj) (congrArg (fun z_ => am_and z_ 255) hI) (BYT_c rfl (by omega) (by omega) (by omega)) (by omega)) (Nat.lt_succ_self _)) ⟨.inl rfl, .inl rfl, .inl rfl, trivial⟩
theorem sp_X5_feed_f (L : Nat) (xs : Nat → Int32) (sio : Option Nat) (d : Nat) (dt : Nat → Nat → Int) (hI : InvC dt)  (p1 : Int) (h_p1 : (-2147483648) ≤ p1 ∧ p1 ≤ 2147483647) (p2 : Int) (h_p2 : (-2147483648) ≤ p2 ∧ p2 ≤ 2147483647) (p3 : Int) (h_p3 : (-2147483648) ≤ p3 ∧ p3 ≤ 2147483647) (p4 : Int) (h_p4 : (-2147483648) ≤ p4 ∧ p4 ≤ 2147483647) (p5 : Int) (h_p5 : (-2147483648) ≤ p5 ∧ p5 ≤ 2147483647)  : GO (am_XX L xs sio) (d + 1) 68 0 [some (.inr (.inr (some 0))), some (.inl p1), some (.inl p2), some (.inl p3), some (.inl p4), some (.inl p5)] [] (SH, dt) (fun r w2 => ∃ dt2 : Nat → Nat → Int, w2 = (SH, dt2) ∧ InvC dt2 ∧ Fr [35, 36] dt dt2 ∧ ((r = some (.inl (-1)) ∧ (¬ (dt 35 1 + 20 ≤ 500)) ∧ (dt2 35 1 = dt 35 1) ∧ (∀ j : Nat, dt2 36 j = dt 36 j) ∧ (dt2 35 2 = dt 35 2) ∧ (dt2 35 3 = dt 35 3)) ∨ (∃ v : Int, r = some (.inl v) ∧ ((-2147483648) ≤ v ∧ v ≤ 2147483647) ∧ (v = dt 35 1 + 20) ∧ (dt 35 1 + 20 ≤ 500) ∧ (dt2 35 1 = dt 35 1 + 20) ∧ (FDX (fun j => am_and (dt 36 j) 255) (fun j => am_and (dt2 36 j) 255) (dt 35 1) (dt2 35 1) (FBY p1 p2 p3 p4 p5)) ∧ (dt2 35 2 = dt 35 2) ∧ (dt2 35 3 = dt 35 3)))) := by
  have hF : Fr [35, 36] dt dt := Fr_refl
  have r1 : 0 ≤ dt 35 1 ∧ dt 35 1 ≤ 500 := InvC_get hI 35 1 rfl rfl
  refine go_to (k := 3) (pc' := 6) (L' := [some (.inr (.inr (some 0))), some (.inl p1), some (.inl p2), some (.inl p3), some (.inl p4), some (.inl p5)]) (st' := [.inl 20, .inr (.inr (some 35))]) (w' := (SH, dt)) (fun _ => rfl) ?_
  refine go_call (Q' := _) rfl rfl rfl rfl rfl (sp_X1_hasRoom L xs sio (d + 0) dt hI  20 ⟨by omega, by omega⟩ ) ?_
  rintro _ _ ⟨rfl, h2⟩
  refine ⟨rfl, ?_⟩
  rcases h2 with ⟨rfl, h2⟩ | ⟨rfl, h2⟩
  · skip
    refine go_to (k := 4) (pc' := 19) (L' := [some (.inr (.inr (some 0))), some (.inl p1), some (.inl p2), some (.inl p3), some (.inl p4), some (.inl p5)]) (st' := [.inl p1, .inr (.inr (some 35))]) (w' := (SH, dt)) (fun _ => rfl) ?_
    refine go_call (Q' := _) rfl rfl rfl rfl rfl (sp_X1_take_f L xs sio (d + 0) dt hI  p1 ⟨by omega, by omega⟩ (by first | trivial | omega)) ?_
    rintro _ _ ⟨dt4, rfl, hI5, hF6, h3⟩
    refine ⟨rfl, ?_⟩
    have hF7 : Fr [35, 36] dt dt4 := Fr_tr hF hF6 (by decide)
    rcases h3 with ⟨rfl, h3⟩
    obtain ⟨h3_0, h3_1, h3_2, h3_3⟩ := h3
    refine go_to (k := 3) (pc' := 27) (L' := [some (.inr (.inr (some 0))), some (.inl p1), some (.inl p2), some (.inl p3), some (.inl p4), some (.inl p5)]) (st' := [.inl p2, .inr (.inr (some 35))]) (w' := (SH, dt4)) (fun _ => rfl) ?_
    refine go_call (Q' := _) rfl rfl rfl rfl rfl (sp_X1_take_f L xs sio (d + 0) dt4 hI5  p2 ⟨by omega, by omega⟩ (by first | trivial | omega)) ?_
    rintro _ _ ⟨dt9, rfl, hI10, hF11, h8⟩
    refine ⟨rfl, ?_⟩
    have hF12 : Fr [35, 36] dt dt9 := Fr_tr hF7 hF11 (by decide)
    rcases h8 with ⟨rfl, h8⟩
    obtain ⟨h8_0, h8_1, h8_2, h8_3⟩ := h8
    refine go_to (k := 3) (pc' := 35) (L' := [some (.inr (.inr (some 0))), some (.inl p1), some (.inl p2), some (.inl p3), some (.inl p4), some (.inl p5)]) (st' := [.inl p3, .inr (.inr (some 35))]) (w' := (SH, dt9)) (fun _ => rfl) ?_
    refine go_call (Q' := _) rfl rfl rfl rfl rfl (sp_X1_take_f L xs sio (d + 0) dt9 hI10  p3 ⟨by omega, by omega⟩ (by first | trivial | omega)) ?_
    rintro _ _ ⟨dt14, rfl, hI15, hF16, h13⟩
    refine ⟨rfl, ?_⟩
    have hF17 : Fr [35, 36] dt dt14 := Fr_tr hF12 hF16 (by decide)
    rcases h13 with ⟨rfl, h13⟩
    obtain ⟨h13_0, h13_1, h13_2, h13_3⟩ := h13
    refine go_to (k := 3) (pc' := 44) (L' := [some (.inr (.inr (some 0))), some (.inl p1), some (.inl p2), some (.inl p3), some (.inl p4), some (.inl p5)]) (st' := [.inl p4, .inr (.inr (some 35))]) (w' := (SH, dt14)) (fun _ => rfl) ?_
    refine go_call (Q' := _) rfl rfl rfl rfl rfl (sp_X1_take_f L xs sio (d + 0) dt14 hI15  p4 ⟨by omega, by omega⟩ (by first | trivial | omega)) ?_
    rintro _ _ ⟨dt19, rfl, hI20, hF21, h18⟩
    refine ⟨rfl, ?_⟩
    have hF22 : Fr [35, 36] dt dt19 := Fr_tr hF17 hF21 (by decide)
    rcases h18 with ⟨rfl, h18⟩
    obtain ⟨h18_0, h18_1, h18_2, h18_3⟩ := h18
    refine go_to (k := 3) (pc' := 53) (L' := [some (.inr (.inr (some 0))), some (.inl p1), some (.inl p2), some (.inl p3), some (.inl p4), some (.inl p5)]) (st' := [.inl p5, .inr (.inr (some 35))]) (w' := (SH, dt19)) (fun _ => rfl) ?_
    refine go_call (Q' := _) rfl rfl rfl rfl rfl (sp_X1_take_f L xs sio (d + 0) dt19 hI20  p5 ⟨by omega, by omega⟩ (by first | trivial | omega)) ?_
    rintro _ _ ⟨dt24, rfl, hI25, hF26, h23⟩
    refine ⟨rfl, ?_⟩
    have hF27 : Fr [35, 36] dt dt24 := Fr_tr hF22 hF26 (by decide)
    rcases h23 with ⟨rfl, h23⟩
    obtain ⟨h23_0, h23_1, h23_2, h23_3⟩ := h23
    have r28 : 0 ≤ dt24 35 1 ∧ dt24 35 1 ≤ 500 := InvC_get hI25 35 1 rfl rfl
    refine go_ret (k := 4) (r := some (.inl (dt24 35 1))) (w1 := (SH, dt24)) (fun _ => rfl) ?_
    exact ⟨dt24, rfl, hI25, hF27, (Or.inr ⟨_, rfl, ⟨by omega, by omega⟩, ⟨by first | trivial | omega, by first | trivial | omega, by first | trivial | omega, by exact FDX_5 h3_1 h8_1 h13_1 h18_1 h23_1 (by omega) (by omega) (by omega) (by omega) (by omega), by first | trivial | omega, by first | trivial | omega⟩⟩)⟩
  · skip
    refine go_ret (k := 3) (r := some (.inl (-1))) (w1 := (SH, dt)) (fun _ => rfl) ?_
    first | exact ⟨dt, rfl, hI, hF, (Or.inl ⟨rfl, ⟨by first | trivial | omega, by first | trivial | omega, by exact fun _ => rfl, by first | trivial | omega, by first | trivial | omega⟩⟩)⟩ | exact ⟨dt, rfl, hI, hF, (Or.inr ⟨_, rfl, ⟨by omega, by omega⟩, ⟨by first | trivial | omega, by first | trivial | omega, by first | trivial | omega, by exact FDX_5 hI hI hI hI hI (by omega) (by omega) (by omega) (by omega) (by omega), by first | trivial | omega, by first | trivial | omega⟩⟩)⟩
set_option maxRecDepth 20000 in
theorem sp_X6_feed_f (L : Nat) (xs : Nat → Int32) (sio : Option Nat) (d : Nat) (dt : Nat → Nat → Int) (hI : InvC dt)  (p1 : Int) (h_p1 : (-2147483648) ≤ p1 ∧ p1 ≤ 2147483647) (p2 : Int) (h_p2 : (-2147483648) ≤ p2 ∧ p2 ≤ 2147483647) (p3 : Int) (h_p3 : (-2147483648) ≤ p3 ∧ p3 ≤ 2147483647) (p4 : Int) (h_p4 : (-2147483648) ≤ p4 ∧ p4 ≤ 2147483647) (p5 : Int) (h_p5 : (-2147483648) ≤ p5 ∧ p5 ≤ 2147483647)  : GO (am_XX L xs sio) (d) 151 0 [some (.inr (.inr (some 79))), some (.inl p1), some (.inl p2), some (.inl p3), some (.inl p4), some (.inl p5), none, none] [] (SH, dt) (fun r w2 => ∃ dt2 : Nat → Nat → Int, w2 = (SH, dt2) ∧ InvC dt2 ∧ Fr [79, 85] dt dt2 ∧ ((r = some (.inl (-1)) ∧ (¬ (dt 79 12 + 20 ≤ 500)) ∧ (dt2 79 12 = dt 79 12) ∧ (∀ j : Nat, dt2 85 j = dt 85 j) ∧ (dt2 79 2 = dt 79 2) ∧ (dt2 79 19 = dt 79 19) ∧ (dt2 79 21 = dt 79 21)) ∨ (∃ v : Int, r = some (.inl v) ∧ ((-2147483648) ≤ v ∧ v ≤ 2147483647) ∧ (v = dt 79 12 + 20) ∧ (dt 79 12 + 20 ≤ 500) ∧ (dt2 79 12 = dt 79 12 + 20) ∧ (FDX (dt 85) (dt2 85) (dt 79 12) (dt2 79 12) (FBY p1 p2 p3 p4 p5)) ∧ (dt2 79 2 = dt 79 2) ∧ (dt2 79 19 = dt 79 19) ∧ (dt2 79 21 = dt 79 21)))) := by
  have hF : Fr [79, 85] dt dt := Fr_refl
  have r1 : 0 ≤ dt 79 12 ∧ dt 79 12 ≤ 500 := InvC_get hI 79 12 rfl rfl
  refine go_if (k := 6) (p1 := 15) (p2 := 13) (L' := [some (.inr (.inr (some 79))), some (.inl p1), some (.inl p2), some (.inl p3), some (.inl p4), some (.inl p5), none, none]) (st' := []) (w' := (SH, dt)) (fun _ => rfl) (c_le (a := (dt 79 12) + 20) (b := 500) ⟨by omega, by omega⟩ ⟨by omega, by omega⟩) (fun c2 => ?_) (fun c2 => ?_)
  · skip
    refine go_to (k := 2) (pc' := 18) (L' := [some (.inr (.inr (some 79))), some (.inl p1), some (.inl p2), some (.inl p3), some (.inl p4), some (.inl p5), some (.inl 0), none]) (st' := []) (w' := (SH, dt)) (fun _ => rfl) ?_
    have loop103 : ∀ (k_ : Nat) (l18_6 : Int) (dt94 : Nat → Nat → Int) (hI95 : InvC dt94) (hF96 : Fr [79, 85] dt dt94) (i97 : 0 ≤ l18_6 ∧ l18_6 ≤ 20) (i98 : dt94 79 12 = dt 79 12 + l18_6) (i99 : FDX (dt 85) (dt94 85) (dt 79 12) (dt94 79 12) (FBY p1 p2 p3 p4 p5)) (i100 : dt94 79 2 = dt 79 2) (i101 : dt94 79 19 = dt 79 19) (i102 : dt94 79 21 = dt 79 21), (21 - l18_6).toNat < k_ → GO (am_XX L xs sio) (d) 151 18 [some (.inr (.inr (some 79))), some (.inl p1), some (.inl p2), some (.inl p3), some (.inl p4), some (.inl p5), some (.inl l18_6), none] [] (SH, dt94) (fun r w2 => ∃ dt2 : Nat → Nat → Int, w2 = (SH, dt2) ∧ InvC dt2 ∧ Fr [79, 85] dt dt2 ∧ ((r = some (.inl (-1)) ∧ (¬ (dt 79 12 + 20 ≤ 500)) ∧ (dt2 79 12 = dt 79 12) ∧ (∀ j : Nat, dt2 85 j = dt 85 j) ∧ (dt2 79 2 = dt 79 2) ∧ (dt2 79 19 = dt 79 19) ∧ (dt2 79 21 = dt 79 21)) ∨ (∃ v : Int, r = some (.inl v) ∧ ((-2147483648) ≤ v ∧ v ≤ 2147483647) ∧ (v = dt 79 12 + 20) ∧ (dt 79 12 + 20 ≤ 500) ∧ (dt2 79 12 = dt 79 12 + 20) ∧ (FDX (dt 85) (dt2 85) (dt 79 12) (dt2 79 12) (FBY p1 p2 p3 p4 p5)) ∧ (dt2 79 2 = dt 79 2) ∧ (dt2 79 19 = dt 79 19) ∧ (dt2 79 21 = dt 79 21)))) := by
      intro k_
      induction k_ with
      | zero => intro l18_6 dt94 hI95 hF96 i97 i98 i99 i100 i101 i102 hm; exact absurd hm (Nat.not_lt_zero _)
      | succ k_ ih_loop103 =>
        intro l18_6 dt94 hI95 hF96 i97 i98 i99 i100 i101 i102 hm
        have qF := i99
        refine go_if (k := 3) (p1 := 115) (p2 := 25) (L' := [some (.inr (.inr (some 79))), some (.inl p1), some (.inl p2), some (.inl p3), some (.inl p4), some (.inl p5), some (.inl l18_6), none]) (st' := []) (w' := (SH, dt94)) (fun _ => rfl) (c_ge (a := l18_6) (b := 20) ⟨by omega, by omega⟩ ⟨by omega, by omega⟩) (fun c104 => ?_) (fun c104 => ?_)
        · skip
          have r105 : 0 ≤ dt94 79 12 ∧ dt94 79 12 ≤ 500 := InvC_get hI95 79 12 rfl rfl
          refine go_ret (k := 3) (r := some (.inl (dt94 79 12))) (w1 := (SH, dt94)) (fun _ => rfl) ?_
          exact ⟨dt94, rfl, hI95, hF96, (Or.inr ⟨_, rfl, ⟨by omega, by omega⟩, ⟨by first | trivial | omega, by first | trivial | omega, by first | trivial | omega, by exact qF, by first | trivial | omega, by first | trivial | omega, by first | trivial | omega⟩⟩)⟩
        · skip
          refine go_if (k := 3) (p1 := 35) (p2 := 31) (L' := [some (.inr (.inr (some 79))), some (.inl p1), some (.inl p2), some (.inl p3), some (.inl p4), some (.inl p5), some (.inl l18_6), none]) (st' := []) (w' := (SH, dt94)) (fun _ => rfl) (c_ge (a := l18_6) (b := 4) ⟨by omega, by omega⟩ ⟨by omega, by omega⟩) (fun c106 => ?_) (fun c106 => ?_)
          · skip
            refine go_if (k := 3) (p1 := 46) (p2 := 42) (L' := [some (.inr (.inr (some 79))), some (.inl p1), some (.inl p2), some (.inl p3), some (.inl p4), some (.inl p5), some (.inl l18_6), none]) (st' := []) (w' := (SH, dt94)) (fun _ => rfl) (c_ge (a := l18_6) (b := 8) ⟨by omega, by omega⟩ ⟨by omega, by omega⟩) (fun c107 => ?_) (fun c107 => ?_)
            · skip
              refine go_if (k := 3) (p1 := 57) (p2 := 53) (L' := [some (.inr (.inr (some 79))), some (.inl p1), some (.inl p2), some (.inl p3), some (.inl p4), some (.inl p5), some (.inl l18_6), none]) (st' := []) (w' := (SH, dt94)) (fun _ => rfl) (c_ge (a := l18_6) (b := 12) ⟨by omega, by omega⟩ ⟨by omega, by omega⟩) (fun c108 => ?_) (fun c108 => ?_)
              · skip
                refine go_if (k := 3) (p1 := 69) (p2 := 64) (L' := [some (.inr (.inr (some 79))), some (.inl p1), some (.inl p2), some (.inl p3), some (.inl p4), some (.inl p5), some (.inl l18_6), none]) (st' := []) (w' := (SH, dt94)) (fun _ => rfl) (c_ge (a := l18_6) (b := 16) ⟨by omega, by omega⟩ ⟨by omega, by omega⟩) (fun c109 => ?_) (fun c109 => ?_)
                · skip
                  have r110 : 0 ≤ dt94 79 12 ∧ dt94 79 12 ≤ 500 := InvC_get hI95 79 12 rfl rfl
                  refine go_to (k := 11) (pc' := 90) (L' := [some (.inr (.inr (some 79))), some (.inl p1), some (.inl p2), some (.inl p3), some (.inl p4), some (.inl p5), some (.inl l18_6), some (.inl p5)]) (st' := [.inl 4, .inl l18_6, .inl 8, .inl 24, .inl p5, .inl (dt94 79 12), .inr (.inr (some 85))]) (w' := (SH, dt94)) (fun _ => rfl) ?_
                  refine go_smp (L' := [some (.inr (.inr (some 79))), some (.inl p1), some (.inl p2), some (.inl p3), some (.inl p4), some (.inl p5), some (.inl l18_6), some (.inl p5)]) (st' := [.inl (l18_6 % 4), .inl 8, .inl 24, .inl p5, .inl (dt94 79 12), .inr (.inr (some 85))]) (w' := (SH, dt94)) rfl rfl (s_iremc ⟨by omega, by omega⟩ ⟨by omega, by omega⟩) ?_
                  have r111 : -2147483648 ≤ am_shr p5 (24 - (8 * (l18_6 % 4))) ∧ am_shr p5 (24 - (8 * (l18_6 % 4))) ≤ 2147483647 := am_shr_R
                  have r112 : 0 ≤ am_and (am_shr p5 (24 - (8 * (l18_6 % 4)))) 255 ∧ am_and (am_shr p5 (24 - (8 * (l18_6 % 4)))) 255 ≤ 255 := and_R255
                  refine go_to (k := 5) (pc' := 98) (L' := [some (.inr (.inr (some 79))), some (.inl p1), some (.inl p2), some (.inl p3), some (.inl p4), some (.inl p5), some (.inl l18_6), some (.inl p5)]) (st' := [.inl (am_and (am_shr p5 (24 - (8 * (l18_6 % 4)))) 255), .inl (dt94 79 12), .inr (.inr (some 85))]) (w' := (SH, dt94)) (fun _ => rfl) ?_
                  have hI113 : InvC (u2 dt94 85 ((dt94 79 12).toNat) (am_and (am_shr p5 (24 - (8 * (l18_6 % 4)))) 255)) := InvC_u2 hI95 (lo := 0) (hi := 255) rfl rfl rfl (by omega) (by omega)
                  have hF114 : Fr [79, 85] dt (u2 dt94 85 ((dt94 79 12).toNat) (am_and (am_shr p5 (24 - (8 * (l18_6 % 4)))) 255)) := Fr_u2 hF96 (by decide)
                  have w115 : (u2 dt94 85 ((dt94 79 12).toNat) (am_and (am_shr p5 (24 - (8 * (l18_6 % 4)))) 255)) 79 12 = dt94 79 12 := rfl
                  have w116 : (u2 dt94 85 ((dt94 79 12).toNat) (am_and (am_shr p5 (24 - (8 * (l18_6 % 4)))) 255)) 79 2 = dt94 79 2 := rfl
                  have w117 : (u2 dt94 85 ((dt94 79 12).toNat) (am_and (am_shr p5 (24 - (8 * (l18_6 % 4)))) 255)) 79 19 = dt94 79 19 := rfl
                  have w118 : (u2 dt94 85 ((dt94 79 12).toNat) (am_and (am_shr p5 (24 - (8 * (l18_6 % 4)))) 255)) 79 21 = dt94 79 21 := rfl
                  have k119 : ∀ j : Nat, ¬ (j : Int) = dt94 79 12 → (u2 dt94 85 ((dt94 79 12).toNat) (am_and (am_shr p5 (24 - (8 * (l18_6 % 4)))) 255)) 85 j = dt94 85 j := fun j hj => u2_ne (by omega)
                  have k120 : (u2 dt94 85 ((dt94 79 12).toNat) (am_and (am_shr p5 (24 - (8 * (l18_6 % 4)))) 255)) 85 (dt94 79 12).toNat = am_and (am_shr p5 (24 - (8 * (l18_6 % 4)))) 255 := u2_eq
                  refine go_smp (L' := [some (.inr (.inr (some 79))), some (.inl p1), some (.inl p2), some (.inl p3), some (.inl p4), some (.inl p5), some (.inl l18_6), some (.inl p5)]) (st' := []) (w' := (SH, (u2 dt94 85 ((dt94 79 12).toNat) (am_and (am_shr p5 (24 - (8 * (l18_6 % 4)))) 255)))) rfl rfl (s_iast (n := 500) rfl ⟨by omega, by omega⟩ ⟨by omega, by omega⟩) ?_
                  refine go_to (k := 5) (pc' := 106) (L' := [some (.inr (.inr (some 79))), some (.inl p1), some (.inl p2), some (.inl p3), some (.inl p4), some (.inl p5), some (.inl l18_6), some (.inl p5)]) (st' := [.inl ((dt94 79 12) + 1), .inr (.inr (some 79))]) (w' := (SH, (u2 dt94 85 ((dt94 79 12).toNat) (am_and (am_shr p5 (24 - (8 * (l18_6 % 4)))) 255)))) (fun _ => rfl) ?_
                  have hI121 : InvC (u2 (u2 dt94 85 ((dt94 79 12).toNat) (am_and (am_shr p5 (24 - (8 * (l18_6 % 4)))) 255)) 79 12 ((dt94 79 12) + 1)) := InvC_u2 hI113 (lo := 0) (hi := 500) rfl rfl rfl (by omega) (by omega)
                  have hF122 : Fr [79, 85] dt (u2 (u2 dt94 85 ((dt94 79 12).toNat) (am_and (am_shr p5 (24 - (8 * (l18_6 % 4)))) 255)) 79 12 ((dt94 79 12) + 1)) := Fr_u2 hF114 (by decide)
                  have w123 : (u2 (u2 dt94 85 ((dt94 79 12).toNat) (am_and (am_shr p5 (24 - (8 * (l18_6 % 4)))) 255)) 79 12 ((dt94 79 12) + 1)) 79 12 = (dt94 79 12) + 1 := rfl
                  have w124 : (u2 (u2 dt94 85 ((dt94 79 12).toNat) (am_and (am_shr p5 (24 - (8 * (l18_6 % 4)))) 255)) 79 12 ((dt94 79 12) + 1)) 79 2 = (u2 dt94 85 ((dt94 79 12).toNat) (am_and (am_shr p5 (24 - (8 * (l18_6 % 4)))) 255)) 79 2 := rfl
                  have w125 : (u2 (u2 dt94 85 ((dt94 79 12).toNat) (am_and (am_shr p5 (24 - (8 * (l18_6 % 4)))) 255)) 79 12 ((dt94 79 12) + 1)) 79 19 = (u2 dt94 85 ((dt94 79 12).toNat) (am_and (am_shr p5 (24 - (8 * (l18_6 % 4)))) 255)) 79 19 := rfl
                  have w126 : (u2 (u2 dt94 85 ((dt94 79 12).toNat) (am_and (am_shr p5 (24 - (8 * (l18_6 % 4)))) 255)) 79 12 ((dt94 79 12) + 1)) 79 21 = (u2 dt94 85 ((dt94 79 12).toNat) (am_and (am_shr p5 (24 - (8 * (l18_6 % 4)))) 255)) 79 21 := rfl
                  refine go_smp (L' := [some (.inr (.inr (some 79))), some (.inl p1), some (.inl p2), some (.inl p3), some (.inl p4), some (.inl p5), some (.inl l18_6), some (.inl p5)]) (st' := []) (w' := (SH, (u2 (u2 dt94 85 ((dt94 79 12).toNat) (am_and (am_shr p5 (24 - (8 * (l18_6 % 4)))) 255)) 79 12 ((dt94 79 12) + 1)))) rfl rfl (s_pf rfl rfl rfl rfl ⟨by omega, by omega⟩) ?_
                  refine go_to (k := 2) (pc' := 18) (L' := [some (.inr (.inr (some 79))), some (.inl p1), some (.inl p2), some (.inl p3), some (.inl p4), some (.inl p5), some (.inl (l18_6 + 1)), some (.inl p5)]) (st' := []) (w' := (SH, (u2 (u2 dt94 85 ((dt94 79 12).toNat) (am_and (am_shr p5 (24 - (8 * (l18_6 % 4)))) 255)) 79 12 ((dt94 79 12) + 1)))) (fun _ => rfl) ?_
                  exact GO.le (ih_loop103 (l18_6 + 1) (u2 (u2 dt94 85 ((dt94 79 12).toNat) (am_and (am_shr p5 (24 - (8 * (l18_6 % 4)))) 255)) 79 12 ((dt94 79 12) + 1)) hI121 hF122 (by first | omega | exact FDX_0 | exact FDX_s qF (by omega) (by omega) k119 k120 (FBY_r (l := l18_6) (n0 := dt 79 12) (m := dt94 79 12) ⟨by omega, by omega⟩ (by omega) (by omega) (by omega) (by omega)) (by omega)) (by first | omega | exact FDX_0 | exact FDX_s qF (by omega) (by omega) k119 k120 (FBY_r (l := l18_6) (n0 := dt 79 12) (m := dt94 79 12) ⟨by omega, by omega⟩ (by omega) (by omega) (by omega) (by omega)) (by omega)) (by first | omega | exact FDX_0 | exact FDX_s qF (by omega) (by omega) k119 k120 (FBY_r (l := l18_6) (n0 := dt 79 12) (m := dt94 79 12) ⟨by omega, by omega⟩ (by omega) (by omega) (by omega) (by omega)) (by omega)) (by first | omega | exact FDX_0 | exact FDX_s qF (by omega) (by omega) k119 k120 (FBY_r (l := l18_6) (n0 := dt 79 12) (m := dt94 79 12) ⟨by omega, by omega⟩ (by omega) (by omega) (by omega) (by omega)) (by omega)) (by first | omega | exact FDX_0 | exact FDX_s qF (by omega) (by omega) k119 k120 (FBY_r (l := l18_6) (n0 := dt 79 12) (m := dt94 79 12) ⟨by omega, by omega⟩ (by omega) (by omega) (by omega) (by omega)) (by omega)) (by first | omega | exact FDX_0 | exact FDX_s qF (by omega) (by omega) k119 k120 (FBY_r (l := l18_6) (n0 := dt 79 12) (m := dt94 79 12) ⟨by omega, by omega⟩ (by omega) (by omega) (by omega) (by omega)) (by omega)) (by omega)) ⟨.inl rfl, .inl rfl, .inl rfl, .inl rfl, .inl rfl, .inl rfl, .inl rfl, .inr ⟨rfl, trivial⟩, trivial⟩
                · skip
                  have r127 : 0 ≤ dt94 79 12 ∧ dt94 79 12 ≤ 500 := InvC_get hI95 79 12 rfl rfl
                  refine go_to (k := 12) (pc' := 90) (L' := [some (.inr (.inr (some 79))), some (.inl p1), some (.inl p2), some (.inl p3), some (.inl p4), some (.inl p5), some (.inl l18_6), some (.inl p4)]) (st' := [.inl 4, .inl l18_6, .inl 8, .inl 24, .inl p4, .inl (dt94 79 12), .inr (.inr (some 85))]) (w' := (SH, dt94)) (fun _ => rfl) ?_
                  refine go_smp (L' := [some (.inr (.inr (some 79))), some (.inl p1), some (.inl p2), some (.inl p3), some (.inl p4), some (.inl p5), some (.inl l18_6), some (.inl p4)]) (st' := [.inl (l18_6 % 4), .inl 8, .inl 24, .inl p4, .inl (dt94 79 12), .inr (.inr (some 85))]) (w' := (SH, dt94)) rfl rfl (s_iremc ⟨by omega, by omega⟩ ⟨by omega, by omega⟩) ?_
                  have r128 : -2147483648 ≤ am_shr p4 (24 - (8 * (l18_6 % 4))) ∧ am_shr p4 (24 - (8 * (l18_6 % 4))) ≤ 2147483647 := am_shr_R
                  have r129 : 0 ≤ am_and (am_shr p4 (24 - (8 * (l18_6 % 4)))) 255 ∧ am_and (am_shr p4 (24 - (8 * (l18_6 % 4)))) 255 ≤ 255 := and_R255
                  refine go_to (k := 5) (pc' := 98) (L' := [some (.inr (.inr (some 79))), some (.inl p1), some (.inl p2), some (.inl p3), some (.inl p4), some (.inl p5), some (.inl l18_6), some (.inl p4)]) (st' := [.inl (am_and (am_shr p4 (24 - (8 * (l18_6 % 4)))) 255), .inl (dt94 79 12), .inr (.inr (some 85))]) (w' := (SH, dt94)) (fun _ => rfl) ?_
                  have hI130 : InvC (u2 dt94 85 ((dt94 79 12).toNat) (am_and (am_shr p4 (24 - (8 * (l18_6 % 4)))) 255)) := InvC_u2 hI95 (lo := 0) (hi := 255) rfl rfl rfl (by omega) (by omega)
                  have hF131 : Fr [79, 85] dt (u2 dt94 85 ((dt94 79 12).toNat) (am_and (am_shr p4 (24 - (8 * (l18_6 % 4)))) 255)) := Fr_u2 hF96 (by decide)
                  have w132 : (u2 dt94 85 ((dt94 79 12).toNat) (am_and (am_shr p4 (24 - (8 * (l18_6 % 4)))) 255)) 79 12 = dt94 79 12 := rfl
                  have w133 : (u2 dt94 85 ((dt94 79 12).toNat) (am_and (am_shr p4 (24 - (8 * (l18_6 % 4)))) 255)) 79 2 = dt94 79 2 := rfl
                  have w134 : (u2 dt94 85 ((dt94 79 12).toNat) (am_and (am_shr p4 (24 - (8 * (l18_6 % 4)))) 255)) 79 19 = dt94 79 19 := rfl
                  have w135 : (u2 dt94 85 ((dt94 79 12).toNat) (am_and (am_shr p4 (24 - (8 * (l18_6 % 4)))) 255)) 79 21 = dt94 79 21 := rfl
                  have k136 : ∀ j : Nat, ¬ (j : Int) = dt94 79 12 → (u2 dt94 85 ((dt94 79 12).toNat) (am_and (am_shr p4 (24 - (8 * (l18_6 % 4)))) 255)) 85 j = dt94 85 j := fun j hj => u2_ne (by omega)
                  have k137 : (u2 dt94 85 ((dt94 79 12).toNat) (am_and (am_shr p4 (24 - (8 * (l18_6 % 4)))) 255)) 85 (dt94 79 12).toNat = am_and (am_shr p4 (24 - (8 * (l18_6 % 4)))) 255 := u2_eq
                  refine go_smp (L' := [some (.inr (.inr (some 79))), some (.inl p1), some (.inl p2), some (.inl p3), some (.inl p4), some (.inl p5), some (.inl l18_6), some (.inl p4)]) (st' := []) (w' := (SH, (u2 dt94 85 ((dt94 79 12).toNat) (am_and (am_shr p4 (24 - (8 * (l18_6 % 4)))) 255)))) rfl rfl (s_iast (n := 500) rfl ⟨by omega, by omega⟩ ⟨by omega, by omega⟩) ?_
                  refine go_to (k := 5) (pc' := 106) (L' := [some (.inr (.inr (some 79))), some (.inl p1), some (.inl p2), some (.inl p3), some (.inl p4), some (.inl p5), some (.inl l18_6), some (.inl p4)]) (st' := [.inl ((dt94 79 12) + 1), .inr (.inr (some 79))]) (w' := (SH, (u2 dt94 85 ((dt94 79 12).toNat) (am_and (am_shr p4 (24 - (8 * (l18_6 % 4)))) 255)))) (fun _ => rfl) ?_
                  have hI138 : InvC (u2 (u2 dt94 85 ((dt94 79 12).toNat) (am_and (am_shr p4 (24 - (8 * (l18_6 % 4)))) 255)) 79 12 ((dt94 79 12) + 1)) := InvC_u2 hI130 (lo := 0) (hi := 500) rfl rfl rfl (by omega) (by omega)
                  have hF139 : Fr [79, 85] dt (u2 (u2 dt94 85 ((dt94 79 12).toNat) (am_and (am_shr p4 (24 - (8 * (l18_6 % 4)))) 255)) 79 12 ((dt94 79 12) + 1)) := Fr_u2 hF131 (by decide)
                  have w140 : (u2 (u2 dt94 85 ((dt94 79 12).toNat) (am_and (am_shr p4 (24 - (8 * (l18_6 % 4)))) 255)) 79 12 ((dt94 79 12) + 1)) 79 12 = (dt94 79 12) + 1 := rfl
                  have w141 : (u2 (u2 dt94 85 ((dt94 79 12).toNat) (am_and (am_shr p4 (24 - (8 * (l18_6 % 4)))) 255)) 79 12 ((dt94 79 12) + 1)) 79 2 = (u2 dt94 85 ((dt94 79 12).toNat) (am_and (am_shr p4 (24 - (8 * (l18_6 % 4)))) 255)) 79 2 := rfl
                  have w142 : (u2 (u2 dt94 85 ((dt94 79 12).toNat) (am_and (am_shr p4 (24 - (8 * (l18_6 % 4)))) 255)) 79 12 ((dt94 79 12) + 1)) 79 19 = (u2 dt94 85 ((dt94 79 12).toNat) (am_and (am_shr p4 (24 - (8 * (l18_6 % 4)))) 255)) 79 19 := rfl
                  have w143 : (u2 (u2 dt94 85 ((dt94 79 12).toNat) (am_and (am_shr p4 (24 - (8 * (l18_6 % 4)))) 255)) 79 12 ((dt94 79 12) + 1)) 79 21 = (u2 dt94 85 ((dt94 79 12).toNat) (am_and (am_shr p4 (24 - (8 * (l18_6 % 4)))) 255)) 79 21 := rfl
                  refine go_smp (L' := [some (.inr (.inr (some 79))), some (.inl p1), some (.inl p2), some (.inl p3), some (.inl p4), some (.inl p5), some (.inl l18_6), some (.inl p4)]) (st' := []) (w' := (SH, (u2 (u2 dt94 85 ((dt94 79 12).toNat) (am_and (am_shr p4 (24 - (8 * (l18_6 % 4)))) 255)) 79 12 ((dt94 79 12) + 1)))) rfl rfl (s_pf rfl rfl rfl rfl ⟨by omega, by omega⟩) ?_
                  refine go_to (k := 2) (pc' := 18) (L' := [some (.inr (.inr (some 79))), some (.inl p1), some (.inl p2), some (.inl p3), some (.inl p4), some (.inl p5), some (.inl (l18_6 + 1)), some (.inl p4)]) (st' := []) (w' := (SH, (u2 (u2 dt94 85 ((dt94 79 12).toNat) (am_and (am_shr p4 (24 - (8 * (l18_6 % 4)))) 255)) 79 12 ((dt94 79 12) + 1)))) (fun _ => rfl) ?_
                  exact GO.le (ih_loop103 (l18_6 + 1) (u2 (u2 dt94 85 ((dt94 79 12).toNat) (am_and (am_shr p4 (24 - (8 * (l18_6 % 4)))) 255)) 79 12 ((dt94 79 12) + 1)) hI138 hF139 (by first | omega | exact FDX_0 | exact FDX_s qF (by omega) (by omega) k136 k137 (FBY_r (l := l18_6) (n0 := dt 79 12) (m := dt94 79 12) ⟨by omega, by omega⟩ (by omega) (by omega) (by omega) (by omega)) (by omega)) (by first | omega | exact FDX_0 | exact FDX_s qF (by omega) (by omega) k136 k137 (FBY_r (l := l18_6) (n0 := dt 79 12) (m := dt94 79 12) ⟨by omega, by omega⟩ (by omega) (by omega) (by omega) (by omega)) (by omega)) (by first | omega | exact FDX_0 | exact FDX_s qF (by omega) (by omega) k136 k137 (FBY_r (l := l18_6) (n0 := dt 79 12) (m := dt94 79 12) ⟨by omega, by omega⟩ (by omega) (by omega) (by omega) (by omega)) (by omega)) (by first | omega | exact FDX_0 | exact FDX_s qF (by omega) (by omega) k136 k137 (FBY_r (l := l18_6) (n0 := dt 79 12) (m := dt94 79 12) ⟨by omega, by omega⟩ (by omega) (by omega) (by omega) (by omega)) (by omega)) (by first | omega | exact FDX_0 | exact FDX_s qF (by omega) (by omega) k136 k137 (FBY_r (l := l18_6) (n0 := dt 79 12) (m := dt94 79 12) ⟨by omega, by omega⟩ (by omega) (by omega) (by omega) (by omega)) (by omega)) (by first | omega | exact FDX_0 | exact FDX_s qF (by omega) (by omega) k136 k137 (FBY_r (l := l18_6) (n0 := dt 79 12) (m := dt94 79 12) ⟨by omega, by omega⟩ (by omega) (by omega) (by omega) (by omega)) (by omega)) (by omega)) ⟨.inl rfl, .inl rfl, .inl rfl, .inl rfl, .inl rfl, .inl rfl, .inl rfl, .inr ⟨rfl, trivial⟩, trivial⟩
              · skip
                have r144 : 0 ≤ dt94 79 12 ∧ dt94 79 12 ≤ 500 := InvC_get hI95 79 12 rfl rfl
                refine go_to (k := 12) (pc' := 90) (L' := [some (.inr (.inr (some 79))), some (.inl p1), some (.inl p2), some (.inl p3), some (.inl p4), some (.inl p5), some (.inl l18_6), some (.inl p3)]) (st' := [.inl 4, .inl l18_6, .inl 8, .inl 24, .inl p3, .inl (dt94 79 12), .inr (.inr (some 85))]) (w' := (SH, dt94)) (fun _ => rfl) ?_
                refine go_smp (L' := [some (.inr (.inr (some 79))), some (.inl p1), some (.inl p2), some (.inl p3), some (.inl p4), some (.inl p5), some (.inl l18_6), some (.inl p3)]) (st' := [.inl (l18_6 % 4), .inl 8, .inl 24, .inl p3, .inl (dt94 79 12), .inr (.inr (some 85))]) (w' := (SH, dt94)) rfl rfl (s_iremc ⟨by omega, by omega⟩ ⟨by omega, by omega⟩) ?_
                have r145 : -2147483648 ≤ am_shr p3 (24 - (8 * (l18_6 % 4))) ∧ am_shr p3 (24 - (8 * (l18_6 % 4))) ≤ 2147483647 := am_shr_R
                have r146 : 0 ≤ am_and (am_shr p3 (24 - (8 * (l18_6 % 4)))) 255 ∧ am_and (am_shr p3 (24 - (8 * (l18_6 % 4)))) 255 ≤ 255 := and_R255
                refine go_to (k := 5) (pc' := 98) (L' := [some (.inr (.inr (some 79))), some (.inl p1), some (.inl p2), some (.inl p3), some (.inl p4), some (.inl p5), some (.inl l18_6), some (.inl p3)]) (st' := [.inl (am_and (am_shr p3 (24 - (8 * (l18_6 % 4)))) 255), .inl (dt94 79 12), .inr (.inr (some 85))]) (w' := (SH, dt94)) (fun _ => rfl) ?_
                have hI147 : InvC (u2 dt94 85 ((dt94 79 12).toNat) (am_and (am_shr p3 (24 - (8 * (l18_6 % 4)))) 255)) := InvC_u2 hI95 (lo := 0) (hi := 255) rfl rfl rfl (by omega) (by omega)
                have hF148 : Fr [79, 85] dt (u2 dt94 85 ((dt94 79 12).toNat) (am_and (am_shr p3 (24 - (8 * (l18_6 % 4)))) 255)) := Fr_u2 hF96 (by decide)
                have w149 : (u2 dt94 85 ((dt94 79 12).toNat) (am_and (am_shr p3 (24 - (8 * (l18_6 % 4)))) 255)) 79 12 = dt94 79 12 := rfl
                have w150 : (u2 dt94 85 ((dt94 79 12).toNat) (am_and (am_shr p3 (24 - (8 * (l18_6 % 4)))) 255)) 79 2 = dt94 79 2 := rfl
                have w151 : (u2 dt94 85 ((dt94 79 12).toNat) (am_and (am_shr p3 (24 - (8 * (l18_6 % 4)))) 255)) 79 19 = dt94 79 19 := rfl
                have w152 : (u2 dt94 85 ((dt94 79 12).toNat) (am_and (am_shr p3 (24 - (8 * (l18_6 % 4)))) 255)) 79 21 = dt94 79 21 := rfl
                have k153 : ∀ j : Nat, ¬ (j : Int) = dt94 79 12 → (u2 dt94 85 ((dt94 79 12).toNat) (am_and (am_shr p3 (24 - (8 * (l18_6 % 4)))) 255)) 85 j = dt94 85 j := fun j hj => u2_ne (by omega)
                have k154 : (u2 dt94 85 ((dt94 79 12).toNat) (am_and (am_shr p3 (24 - (8 * (l18_6 % 4)))) 255)) 85 (dt94 79 12).toNat = am_and (am_shr p3 (24 - (8 * (l18_6 % 4)))) 255 := u2_eq
                refine go_smp (L' := [some (.inr (.inr (some 79))), some (.inl p1), some (.inl p2), some (.inl p3), some (.inl p4), some (.inl p5), some (.inl l18_6), some (.inl p3)]) (st' := []) (w' := (SH, (u2 dt94 85 ((dt94 79 12).toNat) (am_and (am_shr p3 (24 - (8 * (l18_6 % 4)))) 255)))) rfl rfl (s_iast (n := 500) rfl ⟨by omega, by omega⟩ ⟨by omega, by omega⟩) ?_
                refine go_to (k := 5) (pc' := 106) (L' := [some (.inr (.inr (some 79))), some (.inl p1), some (.inl p2), some (.inl p3), some (.inl p4), some (.inl p5), some (.inl l18_6), some (.inl p3)]) (st' := [.inl ((dt94 79 12) + 1), .inr (.inr (some 79))]) (w' := (SH, (u2 dt94 85 ((dt94 79 12).toNat) (am_and (am_shr p3 (24 - (8 * (l18_6 % 4)))) 255)))) (fun _ => rfl) ?_
                have hI155 : InvC (u2 (u2 dt94 85 ((dt94 79 12).toNat) (am_and (am_shr p3 (24 - (8 * (l18_6 % 4)))) 255)) 79 12 ((dt94 79 12) + 1)) := InvC_u2 hI147 (lo := 0) (hi := 500) rfl rfl rfl (by omega) (by omega)
                have hF156 : Fr [79, 85] dt (u2 (u2 dt94 85 ((dt94 79 12).toNat) (am_and (am_shr p3 (24 - (8 * (l18_6 % 4)))) 255)) 79 12 ((dt94 79 12) + 1)) := Fr_u2 hF148 (by decide)
                have w157 : (u2 (u2 dt94 85 ((dt94 79 12).toNat) (am_and (am_shr p3 (24 - (8 * (l18_6 % 4)))) 255)) 79 12 ((dt94 79 12) + 1)) 79 12 = (dt94 79 12) + 1 := rfl
                have w158 : (u2 (u2 dt94 85 ((dt94 79 12).toNat) (am_and (am_shr p3 (24 - (8 * (l18_6 % 4)))) 255)) 79 12 ((dt94 79 12) + 1)) 79 2 = (u2 dt94 85 ((dt94 79 12).toNat) (am_and (am_shr p3 (24 - (8 * (l18_6 % 4)))) 255)) 79 2 := rfl
                have w159 : (u2 (u2 dt94 85 ((dt94 79 12).toNat) (am_and (am_shr p3 (24 - (8 * (l18_6 % 4)))) 255)) 79 12 ((dt94 79 12) + 1)) 79 19 = (u2 dt94 85 ((dt94 79 12).toNat) (am_and (am_shr p3 (24 - (8 * (l18_6 % 4)))) 255)) 79 19 := rfl
                have w160 : (u2 (u2 dt94 85 ((dt94 79 12).toNat) (am_and (am_shr p3 (24 - (8 * (l18_6 % 4)))) 255)) 79 12 ((dt94 79 12) + 1)) 79 21 = (u2 dt94 85 ((dt94 79 12).toNat) (am_and (am_shr p3 (24 - (8 * (l18_6 % 4)))) 255)) 79 21 := rfl
                refine go_smp (L' := [some (.inr (.inr (some 79))), some (.inl p1), some (.inl p2), some (.inl p3), some (.inl p4), some (.inl p5), some (.inl l18_6), some (.inl p3)]) (st' := []) (w' := (SH, (u2 (u2 dt94 85 ((dt94 79 12).toNat) (am_and (am_shr p3 (24 - (8 * (l18_6 % 4)))) 255)) 79 12 ((dt94 79 12) + 1)))) rfl rfl (s_pf rfl rfl rfl rfl ⟨by omega, by omega⟩) ?_
                refine go_to (k := 2) (pc' := 18) (L' := [some (.inr (.inr (some 79))), some (.inl p1), some (.inl p2), some (.inl p3), some (.inl p4), some (.inl p5), some (.inl (l18_6 + 1)), some (.inl p3)]) (st' := []) (w' := (SH, (u2 (u2 dt94 85 ((dt94 79 12).toNat) (am_and (am_shr p3 (24 - (8 * (l18_6 % 4)))) 255)) 79 12 ((dt94 79 12) + 1)))) (fun _ => rfl) ?_
                exact GO.le (ih_loop103 (l18_6 + 1) (u2 (u2 dt94 85 ((dt94 79 12).toNat) (am_and (am_shr p3 (24 - (8 * (l18_6 % 4)))) 255)) 79 12 ((dt94 79 12) + 1)) hI155 hF156 (by first | omega | exact FDX_0 | exact FDX_s qF (by omega) (by omega) k153 k154 (FBY_r (l := l18_6) (n0 := dt 79 12) (m := dt94 79 12) ⟨by omega, by omega⟩ (by omega) (by omega) (by omega) (by omega)) (by omega)) (by first | omega | exact FDX_0 | exact FDX_s qF (by omega) (by omega) k153 k154 (FBY_r (l := l18_6) (n0 := dt 79 12) (m := dt94 79 12) ⟨by omega, by omega⟩ (by omega) (by omega) (by omega) (by omega)) (by omega)) (by first | omega | exact FDX_0 | exact FDX_s qF (by omega) (by omega) k153 k154 (FBY_r (l := l18_6) (n0 := dt 79 12) (m := dt94 79 12) ⟨by omega, by omega⟩ (by omega) (by omega) (by omega) (by omega)) (by omega)) (by first | omega | exact FDX_0 | exact FDX_s qF (by omega) (by omega) k153 k154 (FBY_r (l := l18_6) (n0 := dt 79 12) (m := dt94 79 12) ⟨by omega, by omega⟩ (by omega) (by omega) (by omega) (by omega)) (by omega)) (by first | omega | exact FDX_0 | exact FDX_s qF (by omega) (by omega) k153 k154 (FBY_r (l := l18_6) (n0 := dt 79 12) (m := dt94 79 12) ⟨by omega, by omega⟩ (by omega) (by omega) (by omega) (by omega)) (by omega)) (by first | omega | exact FDX_0 | exact FDX_s qF (by omega) (by omega) k153 k154 (FBY_r (l := l18_6) (n0 := dt 79 12) (m := dt94 79 12) ⟨by omega, by omega⟩ (by omega) (by omega) (by omega) (by omega)) (by omega)) (by omega)) ⟨.inl rfl, .inl rfl, .inl rfl, .inl rfl, .inl rfl, .inl rfl, .inl rfl, .inr ⟨rfl, trivial⟩, trivial⟩
            · skip
              have r161 : 0 ≤ dt94 79 12 ∧ dt94 79 12 ≤ 500 := InvC_get hI95 79 12 rfl rfl
              refine go_to (k := 12) (pc' := 90) (L' := [some (.inr (.inr (some 79))), some (.inl p1), some (.inl p2), some (.inl p3), some (.inl p4), some (.inl p5), some (.inl l18_6), some (.inl p2)]) (st' := [.inl 4, .inl l18_6, .inl 8, .inl 24, .inl p2, .inl (dt94 79 12), .inr (.inr (some 85))]) (w' := (SH, dt94)) (fun _ => rfl) ?_
              refine go_smp (L' := [some (.inr (.inr (some 79))), some (.inl p1), some (.inl p2), some (.inl p3), some (.inl p4), some (.inl p5), some (.inl l18_6), some (.inl p2)]) (st' := [.inl (l18_6 % 4), .inl 8, .inl 24, .inl p2, .inl (dt94 79 12), .inr (.inr (some 85))]) (w' := (SH, dt94)) rfl rfl (s_iremc ⟨by omega, by omega⟩ ⟨by omega, by omega⟩) ?_
              have r162 : -2147483648 ≤ am_shr p2 (24 - (8 * (l18_6 % 4))) ∧ am_shr p2 (24 - (8 * (l18_6 % 4))) ≤ 2147483647 := am_shr_R
              have r163 : 0 ≤ am_and (am_shr p2 (24 - (8 * (l18_6 % 4)))) 255 ∧ am_and (am_shr p2 (24 - (8 * (l18_6 % 4)))) 255 ≤ 255 := and_R255
              refine go_to (k := 5) (pc' := 98) (L' := [some (.inr (.inr (some 79))), some (.inl p1), some (.inl p2), some (.inl p3), some (.inl p4), some (.inl p5), some (.inl l18_6), some (.inl p2)]) (st' := [.inl (am_and (am_shr p2 (24 - (8 * (l18_6 % 4)))) 255), .inl (dt94 79 12), .inr (.inr (some 85))]) (w' := (SH, dt94)) (fun _ => rfl) ?_
              have hI164 : InvC (u2 dt94 85 ((dt94 79 12).toNat) (am_and (am_shr p2 (24 - (8 * (l18_6 % 4)))) 255)) := InvC_u2 hI95 (lo := 0) (hi := 255) rfl rfl rfl (by omega) (by omega)
              have hF165 : Fr [79, 85] dt (u2 dt94 85 ((dt94 79 12).toNat) (am_and (am_shr p2 (24 - (8 * (l18_6 % 4)))) 255)) := Fr_u2 hF96 (by decide)
              have w166 : (u2 dt94 85 ((dt94 79 12).toNat) (am_and (am_shr p2 (24 - (8 * (l18_6 % 4)))) 255)) 79 12 = dt94 79 12 := rfl
              have w167 : (u2 dt94 85 ((dt94 79 12).toNat) (am_and (am_shr p2 (24 - (8 * (l18_6 % 4)))) 255)) 79 2 = dt94 79 2 := rfl
              have w168 : (u2 dt94 85 ((dt94 79 12).toNat) (am_and (am_shr p2 (24 - (8 * (l18_6 % 4)))) 255)) 79 19 = dt94 79 19 := rfl
              have w169 : (u2 dt94 85 ((dt94 79 12).toNat) (am_and (am_shr p2 (24 - (8 * (l18_6 % 4)))) 255)) 79 21 = dt94 79 21 := rfl
              have k170 : ∀ j : Nat, ¬ (j : Int) = dt94 79 12 → (u2 dt94 85 ((dt94 79 12).toNat) (am_and (am_shr p2 (24 - (8 * (l18_6 % 4)))) 255)) 85 j = dt94 85 j := fun j hj => u2_ne (by omega)
              have k171 : (u2 dt94 85 ((dt94 79 12).toNat) (am_and (am_shr p2 (24 - (8 * (l18_6 % 4)))) 255)) 85 (dt94 79 12).toNat = am_and (am_shr p2 (24 - (8 * (l18_6 % 4)))) 255 := u2_eq
              refine go_smp (L' := [some (.inr (.inr (some 79))), some (.inl p1), some (.inl p2), some (.inl p3), some (.inl p4), some (.inl p5), some (.inl l18_6), some (.inl p2)]) (st' := []) (w' := (SH, (u2 dt94 85 ((dt94 79 12).toNat) (am_and (am_shr p2 (24 - (8 * (l18_6 % 4)))) 255)))) rfl rfl (s_iast (n := 500) rfl ⟨by omega, by omega⟩ ⟨by omega, by omega⟩) ?_
              refine go_to (k := 5) (pc' := 106) (L' := [some (.inr (.inr (some 79))), some (.inl p1), some (.inl p2), some (.inl p3), some (.inl p4), some (.inl p5), some (.inl l18_6), some (.inl p2)]) (st' := [.inl ((dt94 79 12) + 1), .inr (.inr (some 79))]) (w' := (SH, (u2 dt94 85 ((dt94 79 12).toNat) (am_and (am_shr p2 (24 - (8 * (l18_6 % 4)))) 255)))) (fun _ => rfl) ?_
              have hI172 : InvC (u2 (u2 dt94 85 ((dt94 79 12).toNat) (am_and (am_shr p2 (24 - (8 * (l18_6 % 4)))) 255)) 79 12 ((dt94 79 12) + 1)) := InvC_u2 hI164 (lo := 0) (hi := 500) rfl rfl rfl (by omega) (by omega)
              have hF173 : Fr [79, 85] dt (u2 (u2 dt94 85 ((dt94 79 12).toNat) (am_and (am_shr p2 (24 - (8 * (l18_6 % 4)))) 255)) 79 12 ((dt94 79 12) + 1)) := Fr_u2 hF165 (by decide)
              have w174 : (u2 (u2 dt94 85 ((dt94 79 12).toNat) (am_and (am_shr p2 (24 - (8 * (l18_6 % 4)))) 255)) 79 12 ((dt94 79 12) + 1)) 79 12 = (dt94 79 12) + 1 := rfl
              have w175 : (u2 (u2 dt94 85 ((dt94 79 12).toNat) (am_and (am_shr p2 (24 - (8 * (l18_6 % 4)))) 255)) 79 12 ((dt94 79 12) + 1)) 79 2 = (u2 dt94 85 ((dt94 79 12).toNat) (am_and (am_shr p2 (24 - (8 * (l18_6 % 4)))) 255)) 79 2 := rfl
              have w176 : (u2 (u2 dt94 85 ((dt94 79 12).toNat) (am_and (am_shr p2 (24 - (8 * (l18_6 % 4)))) 255)) 79 12 ((dt94 79 12) + 1)) 79 19 = (u2 dt94 85 ((dt94 79 12).toNat) (am_and (am_shr p2 (24 - (8 * (l18_6 % 4)))) 255)) 79 19 := rfl
              have w177 : (u2 (u2 dt94 85 ((dt94 79 12).toNat) (am_and (am_shr p2 (24 - (8 * (l18_6 % 4)))) 255)) 79 12 ((dt94 79 12) + 1)) 79 21 = (u2 dt94 85 ((dt94 79 12).toNat) (am_and (am_shr p2 (24 - (8 * (l18_6 % 4)))) 255)) 79 21 := rfl
              refine go_smp (L' := [some (.inr (.inr (some 79))), some (.inl p1), some (.inl p2), some (.inl p3), some (.inl p4), some (.inl p5), some (.inl l18_6), some (.inl p2)]) (st' := []) (w' := (SH, (u2 (u2 dt94 85 ((dt94 79 12).toNat) (am_and (am_shr p2 (24 - (8 * (l18_6 % 4)))) 255)) 79 12 ((dt94 79 12) + 1)))) rfl rfl (s_pf rfl rfl rfl rfl ⟨by omega, by omega⟩) ?_
              refine go_to (k := 2) (pc' := 18) (L' := [some (.inr (.inr (some 79))), some (.inl p1), some (.inl p2), some (.inl p3), some (.inl p4), some (.inl p5), some (.inl (l18_6 + 1)), some (.inl p2)]) (st' := []) (w' := (SH, (u2 (u2 dt94 85 ((dt94 79 12).toNat) (am_and (am_shr p2 (24 - (8 * (l18_6 % 4)))) 255)) 79 12 ((dt94 79 12) + 1)))) (fun _ => rfl) ?_
              exact GO.le (ih_loop103 (l18_6 + 1) (u2 (u2 dt94 85 ((dt94 79 12).toNat) (am_and (am_shr p2 (24 - (8 * (l18_6 % 4)))) 255)) 79 12 ((dt94 79 12) + 1)) hI172 hF173 (by first | omega | exact FDX_0 | exact FDX_s qF (by omega) (by omega) k170 k171 (FBY_r (l := l18_6) (n0 := dt 79 12) (m := dt94 79 12) ⟨by omega, by omega⟩ (by omega) (by omega) (by omega) (by omega)) (by omega)) (by first | omega | exact FDX_0 | exact FDX_s qF (by omega) (by omega) k170 k171 (FBY_r (l := l18_6) (n0 := dt 79 12) (m := dt94 79 12) ⟨by omega, by omega⟩ (by omega) (by omega) (by omega) (by omega)) (by omega)) (by first | omega | exact FDX_0 | exact FDX_s qF (by omega) (by omega) k170 k171 (FBY_r (l := l18_6) (n0 := dt 79 12) (m := dt94 79 12) ⟨by omega, by omega⟩ (by omega) (by omega) (by omega) (by omega)) (by omega)) (by first | omega | exact FDX_0 | exact FDX_s qF (by omega) (by omega) k170 k171 (FBY_r (l := l18_6) (n0 := dt 79 12) (m := dt94 79 12) ⟨by omega, by omega⟩ (by omega) (by omega) (by omega) (by omega)) (by omega)) (by first | omega | exact FDX_0 | exact FDX_s qF (by omega) (by omega) k170 k171 (FBY_r (l := l18_6) (n0 := dt 79 12) (m := dt94 79 12) ⟨by omega, by omega⟩ (by omega) (by omega) (by omega) (by omega)) (by omega)) (by first | omega | exact FDX_0 | exact FDX_s qF (by omega) (by omega) k170 k171 (FBY_r (l := l18_6) (n0 := dt 79 12) (m := dt94 79 12) ⟨by omega, by omega⟩ (by omega) (by omega) (by omega) (by omega)) (by omega)) (by omega)) ⟨.inl rfl, .inl rfl, .inl rfl, .inl rfl, .inl rfl, .inl rfl, .inl rfl, .inr ⟨rfl, trivial⟩, trivial⟩
          · skip
            have r178 : 0 ≤ dt94 79 12 ∧ dt94 79 12 ≤ 500 := InvC_get hI95 79 12 rfl rfl
            refine go_to (k := 12) (pc' := 90) (L' := [some (.inr (.inr (some 79))), some (.inl p1), some (.inl p2), some (.inl p3), some (.inl p4), some (.inl p5), some (.inl l18_6), some (.inl p1)]) (st' := [.inl 4, .inl l18_6, .inl 8, .inl 24, .inl p1, .inl (dt94 79 12), .inr (.inr (some 85))]) (w' := (SH, dt94)) (fun _ => rfl) ?_
            refine go_smp (L' := [some (.inr (.inr (some 79))), some (.inl p1), some (.inl p2), some (.inl p3), some (.inl p4), some (.inl p5), some (.inl l18_6), some (.inl p1)]) (st' := [.inl (l18_6 % 4), .inl 8, .inl 24, .inl p1, .inl (dt94 79 12), .inr (.inr (some 85))]) (w' := (SH, dt94)) rfl rfl (s_iremc ⟨by omega, by omega⟩ ⟨by omega, by omega⟩) ?_
            have r179 : -2147483648 ≤ am_shr p1 (24 - (8 * (l18_6 % 4))) ∧ am_shr p1 (24 - (8 * (l18_6 % 4))) ≤ 2147483647 := am_shr_R
            have r180 : 0 ≤ am_and (am_shr p1 (24 - (8 * (l18_6 % 4)))) 255 ∧ am_and (am_shr p1 (24 - (8 * (l18_6 % 4)))) 255 ≤ 255 := and_R255
            refine go_to (k := 5) (pc' := 98) (L' := [some (.inr (.inr (some 79))), some (.inl p1), some (.inl p2), some (.inl p3), some (.inl p4), some (.inl p5), some (.inl l18_6), some (.inl p1)]) (st' := [.inl (am_and (am_shr p1 (24 - (8 * (l18_6 % 4)))) 255), .inl (dt94 79 12), .inr (.inr (some 85))]) (w' := (SH, dt94)) (fun _ => rfl) ?_
            have hI181 : InvC (u2 dt94 85 ((dt94 79 12).toNat) (am_and (am_shr p1 (24 - (8 * (l18_6 % 4)))) 255)) := InvC_u2 hI95 (lo := 0) (hi := 255) rfl rfl rfl (by omega) (by omega)
            have hF182 : Fr [79, 85] dt (u2 dt94 85 ((dt94 79 12).toNat) (am_and (am_shr p1 (24 - (8 * (l18_6 % 4)))) 255)) := Fr_u2 hF96 (by decide)
            have w183 : (u2 dt94 85 ((dt94 79 12).toNat) (am_and (am_shr p1 (24 - (8 * (l18_6 % 4)))) 255)) 79 12 = dt94 79 12 := rfl
            have w184 : (u2 dt94 85 ((dt94 79 12).toNat) (am_and (am_shr p1 (24 - (8 * (l18_6 % 4)))) 255)) 79 2 = dt94 79 2 := rfl
            have w185 : (u2 dt94 85 ((dt94 79 12).toNat) (am_and (am_shr p1 (24 - (8 * (l18_6 % 4)))) 255)) 79 19 = dt94 79 19 := rfl
            have w186 : (u2 dt94 85 ((dt94 79 12).toNat) (am_and (am_shr p1 (24 - (8 * (l18_6 % 4)))) 255)) 79 21 = dt94 79 21 := rfl
            have k187 : ∀ j : Nat, ¬ (j : Int) = dt94 79 12 → (u2 dt94 85 ((dt94 79 12).toNat) (am_and (am_shr p1 (24 - (8 * (l18_6 % 4)))) 255)) 85 j = dt94 85 j := fun j hj => u2_ne (by omega)
            have k188 : (u2 dt94 85 ((dt94 79 12).toNat) (am_and (am_shr p1 (24 - (8 * (l18_6 % 4)))) 255)) 85 (dt94 79 12).toNat = am_and (am_shr p1 (24 - (8 * (l18_6 % 4)))) 255 := u2_eq
            refine go_smp (L' := [some (.inr (.inr (some 79))), some (.inl p1), some (.inl p2), some (.inl p3), some (.inl p4), some (.inl p5), some (.inl l18_6), some (.inl p1)]) (st' := []) (w' := (SH, (u2 dt94 85 ((dt94 79 12).toNat) (am_and (am_shr p1 (24 - (8 * (l18_6 % 4)))) 255)))) rfl rfl (s_iast (n := 500) rfl ⟨by omega, by omega⟩ ⟨by omega, by omega⟩) ?_
            refine go_to (k := 5) (pc' := 106) (L' := [some (.inr (.inr (some 79))), some (.inl p1), some (.inl p2), some (.inl p3), some (.inl p4), some (.inl p5), some (.inl l18_6), some (.inl p1)]) (st' := [.inl ((dt94 79 12) + 1), .inr (.inr (some 79))]) (w' := (SH, (u2 dt94 85 ((dt94 79 12).toNat) (am_and (am_shr p1 (24 - (8 * (l18_6 % 4)))) 255)))) (fun _ => rfl) ?_
            have hI189 : InvC (u2 (u2 dt94 85 ((dt94 79 12).toNat) (am_and (am_shr p1 (24 - (8 * (l18_6 % 4)))) 255)) 79 12 ((dt94 79 12) + 1)) := InvC_u2 hI181 (lo := 0) (hi := 500) rfl rfl rfl (by omega) (by omega)
            have hF190 : Fr [79, 85] dt (u2 (u2 dt94 85 ((dt94 79 12).toNat) (am_and (am_shr p1 (24 - (8 * (l18_6 % 4)))) 255)) 79 12 ((dt94 79 12) + 1)) := Fr_u2 hF182 (by decide)
            have w191 : (u2 (u2 dt94 85 ((dt94 79 12).toNat) (am_and (am_shr p1 (24 - (8 * (l18_6 % 4)))) 255)) 79 12 ((dt94 79 12) + 1)) 79 12 = (dt94 79 12) + 1 := rfl
            have w192 : (u2 (u2 dt94 85 ((dt94 79 12).toNat) (am_and (am_shr p1 (24 - (8 * (l18_6 % 4)))) 255)) 79 12 ((dt94 79 12) + 1)) 79 2 = (u2 dt94 85 ((dt94 79 12).toNat) (am_and (am_shr p1 (24 - (8 * (l18_6 % 4)))) 255)) 79 2 := rfl
            have w193 : (u2 (u2 dt94 85 ((dt94 79 12).toNat) (am_and (am_shr p1 (24 - (8 * (l18_6 % 4)))) 255)) 79 12 ((dt94 79 12) + 1)) 79 19 = (u2 dt94 85 ((dt94 79 12).toNat) (am_and (am_shr p1 (24 - (8 * (l18_6 % 4)))) 255)) 79 19 := rfl
            have w194 : (u2 (u2 dt94 85 ((dt94 79 12).toNat) (am_and (am_shr p1 (24 - (8 * (l18_6 % 4)))) 255)) 79 12 ((dt94 79 12) + 1)) 79 21 = (u2 dt94 85 ((dt94 79 12).toNat) (am_and (am_shr p1 (24 - (8 * (l18_6 % 4)))) 255)) 79 21 := rfl
            refine go_smp (L' := [some (.inr (.inr (some 79))), some (.inl p1), some (.inl p2), some (.inl p3), some (.inl p4), some (.inl p5), some (.inl l18_6), some (.inl p1)]) (st' := []) (w' := (SH, (u2 (u2 dt94 85 ((dt94 79 12).toNat) (am_and (am_shr p1 (24 - (8 * (l18_6 % 4)))) 255)) 79 12 ((dt94 79 12) + 1)))) rfl rfl (s_pf rfl rfl rfl rfl ⟨by omega, by omega⟩) ?_
            refine go_to (k := 2) (pc' := 18) (L' := [some (.inr (.inr (some 79))), some (.inl p1), some (.inl p2), some (.inl p3), some (.inl p4), some (.inl p5), some (.inl (l18_6 + 1)), some (.inl p1)]) (st' := []) (w' := (SH, (u2 (u2 dt94 85 ((dt94 79 12).toNat) (am_and (am_shr p1 (24 - (8 * (l18_6 % 4)))) 255)) 79 12 ((dt94 79 12) + 1)))) (fun _ => rfl) ?_
            exact GO.le (ih_loop103 (l18_6 + 1) (u2 (u2 dt94 85 ((dt94 79 12).toNat) (am_and (am_shr p1 (24 - (8 * (l18_6 % 4)))) 255)) 79 12 ((dt94 79 12) + 1)) hI189 hF190 (by first | omega | exact FDX_0 | exact FDX_s qF (by omega) (by omega) k187 k188 (FBY_r (l := l18_6) (n0 := dt 79 12) (m := dt94 79 12) ⟨by omega, by omega⟩ (by omega) (by omega) (by omega) (by omega)) (by omega)) (by first | omega | exact FDX_0 | exact FDX_s qF (by omega) (by omega) k187 k188 (FBY_r (l := l18_6) (n0 := dt 79 12) (m := dt94 79 12) ⟨by omega, by omega⟩ (by omega) (by omega) (by omega) (by omega)) (by omega)) (by first | omega | exact FDX_0 | exact FDX_s qF (by omega) (by omega) k187 k188 (FBY_r (l := l18_6) (n0 := dt 79 12) (m := dt94 79 12) ⟨by omega, by omega⟩ (by omega) (by omega) (by omega) (by omega)) (by omega)) (by first | omega | exact FDX_0 | exact FDX_s qF (by omega) (by omega) k187 k188 (FBY_r (l := l18_6) (n0 := dt 79 12) (m := dt94 79 12) ⟨by omega, by omega⟩ (by omega) (by omega) (by omega) (by omega)) (by omega)) (by first | omega | exact FDX_0 | exact FDX_s qF (by omega) (by omega) k187 k188 (FBY_r (l := l18_6) (n0 := dt 79 12) (m := dt94 79 12) ⟨by omega, by omega⟩ (by omega) (by omega) (by omega) (by omega)) (by omega)) (by first | omega | exact FDX_0 | exact FDX_s qF (by omega) (by omega) k187 k188 (FBY_r (l := l18_6) (n0 := dt 79 12) (m := dt94 79 12) ⟨by omega, by omega⟩ (by omega) (by omega) (by omega) (by omega)) (by omega)) (by omega)) ⟨.inl rfl, .inl rfl, .inl rfl, .inl rfl, .inl rfl, .inl rfl, .inl rfl, .inr ⟨rfl, trivial⟩, trivial⟩
    exact GO.le (loop103 _ 0 dt hI hF (by first | omega | exact FDX_0 | exact FDX_s qF (by omega) (by omega) hI hI (FBY_r (l := l18_6) (n0 := dt 79 12) (m := dt 79 12) ⟨by omega, by omega⟩ (by omega) (by omega) (by omega) (by omega)) (by omega)) (by first | omega | exact FDX_0 | exact FDX_s qF (by omega) (by omega) hI hI (FBY_r (l := l18_6) (n0 := dt 79 12) (m := dt 79 12) ⟨by omega, by omega⟩ (by omega) (by omega) (by omega) (by omega)) (by omega)) (by first | omega | exact FDX_0 | exact FDX_s qF (by omega) (by omega) hI hI (FBY_r (l := l18_6) (n0 := dt 79 12) (m := dt 79 12) ⟨by omega, by omega⟩ (by omega) (by omega) (by omega) (by omega)) (by omega)) (by first | omega | exact FDX_0 | exact FDX_s qF (by omega) (by omega) hI hI (FBY_r (l := l18_6) (n0 := dt 79 12) (m := dt 79 12) ⟨by omega, by omega⟩ (by omega) (by omega) (by omega) (by omega)) (by omega)) (by first | omega | exact FDX_0 | exact FDX_s qF (by omega) (by omega) hI hI (FBY_r (l := l18_6) (n0 := dt 79 12) (m := dt 79 12) ⟨by omega, by omega⟩ (by omega) (by omega) (by omega) (by omega)) (by omega)) (by first | omega | exact FDX_0 | exact FDX_s qF (by omega) (by omega) hI hI (FBY_r (l := l18_6) (n0 := dt 79 12) (m := dt 79 12) ⟨by omega, by omega⟩ (by omega) (by omega) (by omega) (by omega)) (by omega)) (Nat.lt_succ_self _)) ⟨.inl rfl, .inl rfl, .inl rfl, .inl rfl, .inl rfl, .inl rfl, .inl rfl, .inl rfl, trivial⟩
  · skip
    refine go_ret (k := 2) (r := some (.inl (-1))) (w1 := (SH, dt)) (fun _ => rfl) ?_
    first | exact ⟨dt, rfl, hI, hF, (Or.inl ⟨rfl, ⟨by first | trivial | omega, by first | trivial | omega, by exact fun _ => rfl, by first | trivial | omega, by first | trivial | omega, by first | trivial | omega⟩⟩)⟩ | exact ⟨dt, rfl, hI, hF, (Or.inr ⟨_, rfl, ⟨by omega, by omega⟩, ⟨by first | trivial | omega, by first | trivial | omega, by first | trivial | omega, by exact qF, by first | trivial | omega, by first | trivial | omega, by first | trivial | omega⟩⟩)⟩
theorem sp_X1_shorten_f (L : Nat) (xs : Nat → Int32) (sio : Option Nat) (d : Nat) (dt : Nat → Nat → Int) (hI : InvC dt)  (p1 : Int) (h_p1 : (-2147483648) ≤ p1 ∧ p1 ≤ 2147483647)  : GO (am_XX L xs sio) (d) 8 0 [some (.inr (.inr (some 35))), some (.inl p1)] [] (SH, dt) (fun r w2 => ∃ dt2 : Nat → Nat → Int, w2 = (SH, dt2) ∧ InvC dt2 ∧ Fr [35] dt dt2 ∧ ((r = some (.inl 1) ∧ (0 ≤ p1 ∧ p1 ≤ dt 35 1) ∧ (dt2 35 1 = p1) ∧ (dt2 35 2 = dt 35 2) ∧ (dt2 35 3 = dt 35 3)) ∨ (r = some (.inl 0) ∧ (¬ (0 ≤ p1 ∧ p1 ≤ dt 35 1)) ∧ (dt2 35 1 = dt 35 1) ∧ (dt2 35 2 = dt 35 2) ∧ (dt2 35 3 = dt 35 3)))) := by
  have hF : Fr [35] dt dt := Fr_refl
  refine go_if (k := 2) (p1 := 12) (p2 := 4) (L' := [some (.inr (.inr (some 35))), some (.inl p1)]) (st' := []) (w' := (SH, dt)) (fun _ => rfl) (z_lt (a := p1) ⟨by omega, by omega⟩) (fun c1 => ?_) (fun c1 => ?_)
  · skip
    refine go_ret (k := 2) (r := some (.inl 0)) (w1 := (SH, dt)) (fun _ => rfl) ?_
    exact ⟨dt, rfl, hI, hF, (Or.inr ⟨rfl, ⟨by first | trivial | omega, by first | trivial | omega, by first | trivial | omega, by first | trivial | omega⟩⟩)⟩
  · skip
    have r2 : 0 ≤ dt 35 1 ∧ dt 35 1 ≤ 500 := InvC_get hI 35 1 rfl rfl
    refine go_if (k := 4) (p1 := 14) (p2 := 12) (L' := [some (.inr (.inr (some 35))), some (.inl p1)]) (st' := []) (w' := (SH, dt)) (fun _ => rfl) (c_le (a := p1) (b := dt 35 1) ⟨by omega, by omega⟩ ⟨by omega, by omega⟩) (fun c3 => ?_) (fun c3 => ?_)
    · skip
      refine go_to (k := 2) (pc' := 16) (L' := [some (.inr (.inr (some 35))), some (.inl p1)]) (st' := [.inl p1, .inr (.inr (some 35))]) (w' := (SH, dt)) (fun _ => rfl) ?_
      have hI4 : InvC (u2 dt 35 1 p1) := InvC_u2 hI (lo := 0) (hi := 500) rfl rfl rfl (by omega) (by omega)
      have hF5 : Fr [35] dt (u2 dt 35 1 p1) := Fr_u2 hF (by decide)
      have w6 : (u2 dt 35 1 p1) 35 1 = p1 := rfl
      have w7 : (u2 dt 35 1 p1) 35 2 = dt 35 2 := rfl
      have w8 : (u2 dt 35 1 p1) 35 3 = dt 35 3 := rfl
      refine go_smp (L' := [some (.inr (.inr (some 35))), some (.inl p1)]) (st' := []) (w' := (SH, (u2 dt 35 1 p1))) rfl rfl (s_pf rfl rfl rfl rfl ⟨by omega, by omega⟩) ?_
      refine go_ret (k := 2) (r := some (.inl 1)) (w1 := (SH, (u2 dt 35 1 p1))) (fun _ => rfl) ?_
      exact ⟨(u2 dt 35 1 p1), rfl, hI4, hF5, (Or.inl ⟨rfl, ⟨by first | trivial | omega, by first | trivial | omega, by first | trivial | omega, by first | trivial | omega⟩⟩)⟩
    · skip
      refine go_ret (k := 2) (r := some (.inl 0)) (w1 := (SH, dt)) (fun _ => rfl) ?_
      exact ⟨dt, rfl, hI, hF, (Or.inr ⟨rfl, ⟨by first | trivial | omega, by first | trivial | omega, by first | trivial | omega, by first | trivial | omega⟩⟩)⟩
theorem sp_X5_end_f (L : Nat) (xs : Nat → Int32) (sio : Option Nat) (d : Nat) (dt : Nat → Nat → Int) (hI : InvC dt)  (p1 : Int) (h_p1 : (-2147483648) ≤ p1 ∧ p1 ≤ 2147483647)  : GO (am_XX L xs sio) (d + 1) 69 0 [some (.inr (.inr (some 0))), some (.inl p1)] [] (SH, dt) (fun r w2 => ∃ dt2 : Nat → Nat → Int, w2 = (SH, dt2) ∧ InvC dt2 ∧ Fr [35] dt dt2 ∧ ((r = some (.inl 1) ∧ (0 ≤ p1 ∧ p1 ≤ dt 35 1) ∧ (dt2 35 1 = p1) ∧ (dt2 35 2 = dt 35 2) ∧ (dt2 35 3 = dt 35 3)) ∨ (r = some (.inl 0) ∧ (¬ (0 ≤ p1 ∧ p1 ≤ dt 35 1)) ∧ (dt2 35 1 = dt 35 1) ∧ (dt2 35 2 = dt 35 2) ∧ (dt2 35 3 = dt 35 3)))) := by
  have hF : Fr [35] dt dt := Fr_refl
  refine go_to (k := 3) (pc' := 5) (L' := [some (.inr (.inr (some 0))), some (.inl p1)]) (st' := [.inl p1, .inr (.inr (some 35))]) (w' := (SH, dt)) (fun _ => rfl) ?_
  refine go_call (Q' := _) rfl rfl rfl rfl rfl (sp_X1_shorten_f L xs sio (d + 0) dt hI  p1 ⟨by omega, by omega⟩ ) ?_
  rintro _ _ ⟨dt2, rfl, hI3, hF4, h1⟩
  refine ⟨rfl, ?_⟩
  have hF5 : Fr [35] dt dt2 := Fr_tr hF hF4 (by decide)
  rcases h1 with ⟨rfl, h1⟩ | ⟨rfl, h1⟩
  · skip
    refine go_ret (k := 1) (r := some (.inl 1)) (w1 := (SH, dt2)) (fun _ => rfl) ?_
    exact ⟨dt2, rfl, hI3, hF5, (Or.inl ⟨rfl, ⟨by first | trivial | omega, by first | trivial | omega, by first | trivial | omega, by first | trivial | omega⟩⟩)⟩
  · skip
    refine go_ret (k := 1) (r := some (.inl 0)) (w1 := (SH, dt2)) (fun _ => rfl) ?_
    exact ⟨dt2, rfl, hI3, hF5, (Or.inr ⟨rfl, ⟨by first | trivial | omega, by first | trivial | omega, by first | trivial | omega, by first | trivial | omega⟩⟩)⟩
set_option maxRecDepth 20000 in
theorem sp_X6_end_f (L : Nat) (xs : Nat → Int32) (sio : Option Nat) (d : Nat) (dt : Nat → Nat → Int) (hI : InvC dt)  (p1 : Int) (h_p1 : (-2147483648) ≤ p1 ∧ p1 ≤ 2147483647)  : GO (am_XX L xs sio) (d + 1) 152 0 [some (.inr (.inr (some 79))), some (.inl p1)] [] (SH, dt) (fun r w2 => ∃ dt2 : Nat → Nat → Int, w2 = (SH, dt2) ∧ InvC dt2 ∧ Fr [79] dt dt2 ∧ ((r = some (.inl 1) ∧ (0 ≤ p1 ∧ p1 ≤ dt 79 12) ∧ (dt2 79 12 = p1) ∧ (dt2 79 2 = dt 79 2) ∧ (dt2 79 19 = dt 79 19) ∧ (dt2 79 21 = dt 79 21)) ∨ (r = some (.inl 0) ∧ (¬ (0 ≤ p1 ∧ p1 ≤ dt 79 12)) ∧ (dt2 79 12 = dt 79 12) ∧ (dt2 79 2 = dt 79 2) ∧ (dt2 79 19 = dt 79 19) ∧ (dt2 79 21 = dt 79 21)))) := by
  have hF : Fr [79] dt dt := Fr_refl
  have r1 : 0 ≤ dt 79 12 ∧ dt 79 12 ≤ 500 := InvC_get hI 79 12 rfl rfl
  refine go_to (k := 4) (pc' := 6) (L' := [some (.inr (.inr (some 79))), some (.inl p1)]) (st' := [.inl (dt 79 12), .inl 0, .inl p1]) (w' := (SH, dt)) (fun _ => rfl) ?_
  refine go_call (Q' := _) rfl rfl rfl rfl rfl (sp_X6_isIn L xs sio (d + 0) dt hI  p1 ⟨by omega, by omega⟩ 0 ⟨by omega, by omega⟩ (dt 79 12) ⟨by omega, by omega⟩ ) ?_
  rintro _ _ ⟨rfl, h2⟩
  refine ⟨rfl, ?_⟩
  rcases h2 with ⟨rfl, h2⟩ | ⟨rfl, h2⟩
  · skip
    refine go_to (k := 3) (pc' := 16) (L' := [some (.inr (.inr (some 79))), some (.inl p1)]) (st' := [.inl p1, .inr (.inr (some 79))]) (w' := (SH, dt)) (fun _ => rfl) ?_
    have hI3 : InvC (u2 dt 79 12 p1) := InvC_u2 hI (lo := 0) (hi := 500) rfl rfl rfl (by omega) (by omega)
    have hF4 : Fr [79] dt (u2 dt 79 12 p1) := Fr_u2 hF (by decide)
    have w5 : (u2 dt 79 12 p1) 79 12 = p1 := rfl
    have w6 : (u2 dt 79 12 p1) 79 2 = dt 79 2 := rfl
    have w7 : (u2 dt 79 12 p1) 79 19 = dt 79 19 := rfl
    have w8 : (u2 dt 79 12 p1) 79 21 = dt 79 21 := rfl
    refine go_smp (L' := [some (.inr (.inr (some 79))), some (.inl p1)]) (st' := []) (w' := (SH, (u2 dt 79 12 p1))) rfl rfl (s_pf rfl rfl rfl rfl ⟨by omega, by omega⟩) ?_
    refine go_ret (k := 2) (r := some (.inl 1)) (w1 := (SH, (u2 dt 79 12 p1))) (fun _ => rfl) ?_
    exact ⟨(u2 dt 79 12 p1), rfl, hI3, hF4, (Or.inl ⟨rfl, ⟨by first | trivial | omega, by first | trivial | omega, by first | trivial | omega, by first | trivial | omega, by first | trivial | omega⟩⟩)⟩
  · skip
    refine go_ret (k := 3) (r := some (.inl 0)) (w1 := (SH, dt)) (fun _ => rfl) ?_
    exact ⟨dt, rfl, hI, hF, (Or.inr ⟨rfl, ⟨by first | trivial | omega, by first | trivial | omega, by first | trivial | omega, by first | trivial | omega, by first | trivial | omega⟩⟩)⟩
set_option maxRecDepth 20000 in
theorem sp_X6_curves_k (L : Nat) (xs : Nat → Int32) (sio : Option Nat) (d : Nat) (dt : Nat → Nat → Int) (hI : InvC dt) (hM : MW (dt 80))  (p1 : Int) (h_p1 : (-1) ≤ p1 ∧ p1 ≤ 20)  : GO (am_XX L xs sio) (d + 7) 241 0 [some (.inr (.inr (some 79))), some (.inl p1), none] [] (SH, dt) (fun r w2 => ∃ dt2 : Nat → Nat → Int, w2 = (SH, dt2) ∧ InvC dt2 ∧ Fr [79, 88, 89, 90, 91, 92, 93, 94, 95, 96, 97, 98, 99, 100] dt dt2 ∧ ((r = none ∧ (dt2 79 2 = dt 79 2) ∧ (dt2 79 12 = dt 79 12) ∧ (dt2 79 19 = dt 79 19) ∧ (dt2 79 21 = dt 79 21)))) := by
  have hF : Fr [79, 88, 89, 90, 91, 92, 93, 94, 95, 96, 97, 98, 99, 100] dt dt := Fr_refl
  refine go_to (k := 2) (pc' := 2) (L' := [some (.inr (.inr (some 79))), some (.inl p1), none]) (st' := [.inl 0, .inr (.inr (some 79))]) (w' := (SH, dt)) (fun _ => rfl) ?_
  have hI1 : InvC (u2 dt 79 39 0) := InvC_u2 hI (lo := -2147483648) (hi := 2147483647) rfl rfl rfl (by omega) (by omega)
  have hF2 : Fr [79, 88, 89, 90, 91, 92, 93, 94, 95, 96, 97, 98, 99, 100] dt (u2 dt 79 39 0) := Fr_u2 hF (by decide)
  have w3 : (u2 dt 79 39 0) 79 2 = dt 79 2 := rfl
  have w4 : (u2 dt 79 39 0) 79 12 = dt 79 12 := rfl
  have w5 : (u2 dt 79 39 0) 79 19 = dt 79 19 := rfl
  have w6 : (u2 dt 79 39 0) 79 21 = dt 79 21 := rfl
  refine go_smp (L' := [some (.inr (.inr (some 79))), some (.inl p1), none]) (st' := []) (w' := (SH, (u2 dt 79 39 0))) rfl rfl (s_pf rfl rfl rfl rfl ⟨by omega, by omega⟩) ?_
  refine go_to (k := 2) (pc' := 7) (L' := [some (.inr (.inr (some 79))), some (.inl p1), none]) (st' := [.inl 0, .inr (.inr (some 79))]) (w' := (SH, (u2 dt 79 39 0))) (fun _ => rfl) ?_
  have hI7 : InvC (u2 (u2 dt 79 39 0) 79 40 0) := InvC_u2 hI1 (lo := -2147483648) (hi := 2147483647) rfl rfl rfl (by omega) (by omega)
  have hF8 : Fr [79, 88, 89, 90, 91, 92, 93, 94, 95, 96, 97, 98, 99, 100] dt (u2 (u2 dt 79 39 0) 79 40 0) := Fr_u2 hF2 (by decide)
  have w9 : (u2 (u2 dt 79 39 0) 79 40 0) 79 2 = (u2 dt 79 39 0) 79 2 := rfl
  have w10 : (u2 (u2 dt 79 39 0) 79 40 0) 79 12 = (u2 dt 79 39 0) 79 12 := rfl
  have w11 : (u2 (u2 dt 79 39 0) 79 40 0) 79 19 = (u2 dt 79 39 0) 79 19 := rfl
  have w12 : (u2 (u2 dt 79 39 0) 79 40 0) 79 21 = (u2 dt 79 39 0) 79 21 := rfl
  refine go_smp (L' := [some (.inr (.inr (some 79))), some (.inl p1), none]) (st' := []) (w' := (SH, (u2 (u2 dt 79 39 0) 79 40 0))) rfl rfl (s_pf rfl rfl rfl rfl ⟨by omega, by omega⟩) ?_
  refine go_to (k := 2) (pc' := 12) (L' := [some (.inr (.inr (some 79))), some (.inl p1), some (.inl 0)]) (st' := []) (w' := (SH, (u2 (u2 dt 79 39 0) 79 40 0))) (fun _ => rfl) ?_
  have loop365 : ∀ (k_ : Nat) (l12_2 : Int) (dt357 : Nat → Nat → Int) (hI358 : InvC dt357) (hF359 : Fr [79, 88, 89, 90, 91, 92, 93, 94, 95, 96, 97, 98, 99, 100] dt dt357) (i360 : 0 ≤ l12_2 ∧ l12_2 ≤ 300) (i361 : dt357 79 2 = dt 79 2) (i362 : dt357 79 12 = dt 79 12) (i363 : dt357 79 19 = dt 79 19) (i364 : dt357 79 21 = dt 79 21), (301 - l12_2).toNat < k_ → GO (am_XX L xs sio) (d + 7) 241 12 [some (.inr (.inr (some 79))), some (.inl p1), some (.inl l12_2)] [] (SH, dt357) (fun r w2 => ∃ dt2 : Nat → Nat → Int, w2 = (SH, dt2) ∧ InvC dt2 ∧ Fr [79, 88, 89, 90, 91, 92, 93, 94, 95, 96, 97, 98, 99, 100] dt dt2 ∧ ((r = none ∧ (dt2 79 2 = dt 79 2) ∧ (dt2 79 12 = dt 79 12) ∧ (dt2 79 19 = dt 79 19) ∧ (dt2 79 21 = dt 79 21)))) := by
    intro k_
    induction k_ with
    | zero => intro l12_2 dt357 hI358 hF359 i360 i361 i362 i363 i364 hm; exact absurd hm (Nat.not_lt_zero _)
    | succ k_ ih_loop365 =>
      intro l12_2 dt357 hI358 hF359 i360 i361 i362 i363 i364 hm
      refine go_to (k := 4) (pc' := 18) (L' := [some (.inr (.inr (some 79))), some (.inl p1), some (.inl l12_2)]) (st' := [.inl 3, .inr (.inr (some 80)), .inl l12_2]) (w' := (SH, dt357)) (fun _ => rfl) ?_
      have r366 : (-2147483648) ≤ dt 80 3 ∧ dt 80 3 ≤ 2147483647 := InvC_get hI 80 3 rfl rfl
      have r367 := MW_n hM
      refine go_smp (L' := [some (.inr (.inr (some 79))), some (.inl p1), some (.inl l12_2)]) (st' := [.inl (dt 80 3), .inl l12_2]) (w' := (SH, dt357)) rfl rfl (s_ev (s_iald (n := 7460) (f := dt357 80) rfl ⟨by omega, by omega⟩) (hF359 80 (by decide) _)) ?_
      refine go_if (k := 1) (p1 := 101) (p2 := 22) (L' := [some (.inr (.inr (some 79))), some (.inl p1), some (.inl l12_2)]) (st' := []) (w' := (SH, dt357)) (fun _ => rfl) (c_ge (a := l12_2) (b := dt 80 3) ⟨by omega, by omega⟩ ⟨by omega, by omega⟩) (fun c408 => ?_) (fun c408 => ?_)
      · skip
        refine go_ret (k := 1) (r := none) (w1 := (SH, dt357)) (fun _ => rfl) ?_
        exact ⟨dt357, rfl, hI358, hF359, ⟨rfl, ⟨by first | trivial | omega, by first | trivial | omega, by first | trivial | omega, by first | trivial | omega⟩⟩⟩
      · skip
        refine go_to (k := 4) (pc' := 26) (L' := [some (.inr (.inr (some 79))), some (.inl p1), some (.inl l12_2)]) (st' := [.inl 0, .inl l12_2, .inr (.inr (some 79)), .inr (.inr (some 79))]) (w' := (SH, dt357)) (fun _ => rfl) ?_
        refine go_call (Q' := _) rfl rfl rfl rfl rfl (sp_X6_ofAnswer_0 L xs sio (d + 6) dt357 hI358 (MW_fr hM hF359 (by decide))  l12_2 ⟨by omega, by omega⟩ ) ?_
        rintro _ _ ⟨rfl, h409⟩
        refine ⟨rfl, ?_⟩
        rcases h409 with ⟨rfl, h409⟩
        refine go_to (k := 1) (pc' := 30) (L' := [some (.inr (.inr (some 79))), some (.inl p1), some (.inl l12_2)]) (st' := [.inl 1, .inl (dt357 80 (((5540 + (6 * l12_2)) + 0)).toNat), .inr (.inr (some 79))]) (w' := (SH, dt357)) (fun _ => rfl) ?_
        refine go_call (Q' := _) rfl rfl rfl rfl rfl (sp_X6_ofChild_1 L xs sio (d + 6) dt357 hI358 (MW_fr hM hF359 (by decide))  (dt357 80 (((5540 + (6 * l12_2)) + 0)).toNat) ⟨by omega, by omega⟩ ) ?_
        rintro _ _ ⟨rfl, h410⟩
        refine ⟨rfl, ?_⟩
        rcases h410 with ⟨rfl, h410⟩
        refine go_to (k := 1) (pc' := 35) (L' := [some (.inr (.inr (some 79))), some (.inl p1), some (.inl l12_2)]) (st' := [.inl 6, .inl (dt357 80 (((5380 + (4 * (dt357 80 (((5540 + (6 * l12_2)) + 0)).toNat))) + 1)).toNat)]) (w' := (SH, dt357)) (fun _ => rfl) ?_
        refine go_smp (L' := [some (.inr (.inr (some 79))), some (.inl p1), some (.inl l12_2)]) (st' := [.inl ((dt357 80 (((5380 + (4 * (dt357 80 (((5540 + (6 * l12_2)) + 0)).toNat))) + 1)).toNat) / 6)]) (w' := (SH, dt357)) rfl rfl (s_idivc ⟨by omega, by omega⟩ ⟨by omega, by omega⟩) ?_
        have j447 : ∀ (j447_d : Nat → Nat → Int) (j447_hI : InvC j447_d) (j447_hF : Fr [79, 88, 89, 90, 91, 92, 93, 94, 95, 96, 97, 98, 99, 100] dt j447_d) (i448 : j447_d 79 2 = dt 79 2) (i449 : j447_d 79 12 = dt 79 12) (i450 : j447_d 79 19 = dt 79 19) (i451 : j447_d 79 21 = dt 79 21), GO (am_XX L xs sio) (d + 7) 241 95 [some (.inr (.inr (some 79))), some (.inl p1), some (.inl l12_2)] [] (SH, j447_d) (fun r w2 => ∃ dt2 : Nat → Nat → Int, w2 = (SH, dt2) ∧ InvC dt2 ∧ Fr [79, 88, 89, 90, 91, 92, 93, 94, 95, 96, 97, 98, 99, 100] dt dt2 ∧ ((r = none ∧ (dt2 79 2 = dt 79 2) ∧ (dt2 79 12 = dt 79 12) ∧ (dt2 79 19 = dt 79 19) ∧ (dt2 79 21 = dt 79 21)))) := by
          intro j447_d j447_hI j447_hF i448 i449 i450 i451
          refine go_to (k := 2) (pc' := 12) (L' := [some (.inr (.inr (some 79))), some (.inl p1), some (.inl (l12_2 + 1))]) (st' := []) (w' := (SH, j447_d)) (fun _ => rfl) ?_
          exact GO.le (ih_loop365 (l12_2 + 1) j447_d j447_hI j447_hF (by omega) (by omega) (by omega) (by omega) (by omega) (by omega)) ⟨.inl rfl, .inl rfl, .inl rfl, trivial⟩
        refine go_if (k := 2) (p1 := 95) (p2 := 40) (L' := [some (.inr (.inr (some 79))), some (.inl p1), some (.inl l12_2)]) (st' := []) (w' := (SH, dt357)) (fun _ => rfl) (c_ne (a := (dt357 80 (((5380 + (4 * (dt357 80 (((5540 + (6 * l12_2)) + 0)).toNat))) + 1)).toNat) / 6) (b := p1) ⟨by omega, by omega⟩ ⟨by omega, by omega⟩) (fun c452 => ?_) (fun c452 => ?_)
        · skip
          exact GO.le (j447 dt357 hI358 hF359 (by omega) (by omega) (by omega) (by omega)) ⟨.inl rfl, .inl rfl, .inl rfl, trivial⟩
        · skip
          refine go_to (k := 2) (pc' := 42) (L' := [some (.inr (.inr (some 79))), some (.inl p1), some (.inl l12_2)]) (st' := [.inl l12_2, .inr (.inr (some 79))]) (w' := (SH, dt357)) (fun _ => rfl) ?_
          refine go_call (Q' := _) rfl rfl rfl rfl rfl (sp_X6_isTelling L xs sio (d + 0) dt357 hI358 (MW_fr hM hF359 (by decide))  l12_2 ⟨by omega, by omega⟩ ) ?_
          rintro _ _ ⟨dt454, rfl, hI455, hF456, h453⟩
          refine ⟨rfl, ?_⟩
          have hF457 : Fr [79, 88, 89, 90, 91, 92, 93, 94, 95, 96, 97, 98, 99, 100] dt dt454 := Fr_tr hF359 hF456 (by decide)
          have w458 : dt454 79 2 = dt357 79 2 := hF456 79 (by decide) 2
          have w459 : dt454 79 12 = dt357 79 12 := hF456 79 (by decide) 12
          have w460 : dt454 79 19 = dt357 79 19 := hF456 79 (by decide) 19
          have w461 : dt454 79 21 = dt357 79 21 := hF456 79 (by decide) 21
          rcases h453 with ⟨rfl, h453⟩ | ⟨rfl, h453⟩
          · skip
            have r462 : (-2147483648) ≤ dt454 79 39 ∧ dt454 79 39 ≤ 2147483647 := InvC_get hI455 79 39 rfl rfl
            refine go_to (k := 6) (pc' := 58) (L' := [some (.inr (.inr (some 79))), some (.inl p1), some (.inl l12_2)]) (st' := [.inl ((dt454 79 39) + 1), .inr (.inr (some 79))]) (w' := (SH, dt454)) (fun _ => rfl) ?_
            have r463 := wr_RR ((dt454 79 39) + 1)
            have hI464 : InvC (u2 dt454 79 39 (wr ((dt454 79 39) + 1))) := InvC_u2 hI455 (lo := -2147483648) (hi := 2147483647) rfl rfl rfl (by omega) (by omega)
            have hF465 : Fr [79, 88, 89, 90, 91, 92, 93, 94, 95, 96, 97, 98, 99, 100] dt (u2 dt454 79 39 (wr ((dt454 79 39) + 1))) := Fr_u2 hF457 (by decide)
            have w466 : (u2 dt454 79 39 (wr ((dt454 79 39) + 1))) 79 2 = dt454 79 2 := rfl
            have w467 : (u2 dt454 79 39 (wr ((dt454 79 39) + 1))) 79 12 = dt454 79 12 := rfl
            have w468 : (u2 dt454 79 39 (wr ((dt454 79 39) + 1))) 79 19 = dt454 79 19 := rfl
            have w469 : (u2 dt454 79 39 (wr ((dt454 79 39) + 1))) 79 21 = dt454 79 21 := rfl
            refine go_smp (L' := [some (.inr (.inr (some 79))), some (.inl p1), some (.inl l12_2)]) (st' := []) (w' := (SH, (u2 dt454 79 39 (wr ((dt454 79 39) + 1))))) rfl rfl (s_pfw rfl rfl rfl rfl) ?_
            have r470 : (-2147483648) ≤ dt454 79 40 ∧ dt454 79 40 ≤ 2147483647 := InvC_get hI455 79 40 rfl rfl
            refine go_to (k := 6) (pc' := 69) (L' := [some (.inr (.inr (some 79))), some (.inl p1), some (.inl l12_2)]) (st' := [.inl 3, .inl l12_2, .inr (.inr (some 79)), .inl (dt454 79 40), .inr (.inr (some 79))]) (w' := (SH, (u2 dt454 79 39 (wr ((dt454 79 39) + 1))))) (fun _ => rfl) ?_
            refine go_call (Q' := _) rfl rfl rfl rfl rfl (sp_X6_ofAnswer_3 L xs sio (d + 6) (u2 dt454 79 39 (wr ((dt454 79 39) + 1))) hI464 (MW_fr hM hF465 (by decide))  l12_2 ⟨by omega, by omega⟩ ) ?_
            rintro _ _ ⟨rfl, h471⟩
            refine ⟨rfl, ?_⟩
            rcases h471 with ⟨rfl, h471⟩
            refine go_to (k := 4) (pc' := 76) (L' := [some (.inr (.inr (some 79))), some (.inl p1), some (.inl l12_2)]) (st' := [.inl 1, .inl l12_2, .inr (.inr (some 79)), .inr (.inr (some 79)), .inl ((u2 dt454 79 39 (wr ((dt454 79 39) + 1))) 80 (((5540 + (6 * l12_2)) + 3)).toNat), .inl (dt454 79 40), .inr (.inr (some 79))]) (w' := (SH, (u2 dt454 79 39 (wr ((dt454 79 39) + 1))))) (fun _ => rfl) ?_
            refine go_call (Q' := _) rfl rfl rfl rfl rfl (sp_X6_ofAnswer_1 L xs sio (d + 6) (u2 dt454 79 39 (wr ((dt454 79 39) + 1))) hI464 (MW_fr hM hF465 (by decide))  l12_2 ⟨by omega, by omega⟩ ) ?_
            rintro _ _ ⟨rfl, h472⟩
            refine ⟨rfl, ?_⟩
            rcases h472 with ⟨rfl, h472⟩
            refine go_to (k := 1) (pc' := 80) (L' := [some (.inr (.inr (some 79))), some (.inl p1), some (.inl l12_2)]) (st' := [.inl 1, .inl ((u2 dt454 79 39 (wr ((dt454 79 39) + 1))) 80 (((5540 + (6 * l12_2)) + 1)).toNat), .inr (.inr (some 79)), .inl ((u2 dt454 79 39 (wr ((dt454 79 39) + 1))) 80 (((5540 + (6 * l12_2)) + 3)).toNat), .inl (dt454 79 40), .inr (.inr (some 79))]) (w' := (SH, (u2 dt454 79 39 (wr ((dt454 79 39) + 1))))) (fun _ => rfl) ?_
            refine go_call (Q' := _) rfl rfl rfl rfl rfl (sp_X6_saysNow L xs sio (d + 5) (u2 dt454 79 39 (wr ((dt454 79 39) + 1))) hI464 (MW_fr hM hF465 (by decide))  ((u2 dt454 79 39 (wr ((dt454 79 39) + 1))) 80 (((5540 + (6 * l12_2)) + 1)).toNat) ⟨by omega, by omega⟩ 1 ⟨by omega, by omega⟩ ) ?_
            rintro _ _ ⟨rfl, h473⟩
            refine ⟨rfl, ?_⟩
            rcases h473 with ⟨v_h473, rfl, h473r, h473⟩
            refine go_if (k := 1) (p1 := 90) (p2 := 86) (L' := [some (.inr (.inr (some 79))), some (.inl p1), some (.inl l12_2)]) (st' := [.inl (dt454 79 40), .inr (.inr (some 79))]) (w' := (SH, (u2 dt454 79 39 (wr ((dt454 79 39) + 1))))) (fun _ => rfl) (c_ne (a := (u2 dt454 79 39 (wr ((dt454 79 39) + 1))) 80 (((5540 + (6 * l12_2)) + 3)).toNat) (b := v_h473) ⟨by omega, by omega⟩ ⟨by omega, by omega⟩) (fun c475 => ?_) (fun c475 => ?_)
            · skip
              refine go_to (k := 2) (pc' := 92) (L' := [some (.inr (.inr (some 79))), some (.inl p1), some (.inl l12_2)]) (st' := [.inl ((dt454 79 40) + 0), .inr (.inr (some 79))]) (w' := (SH, (u2 dt454 79 39 (wr ((dt454 79 39) + 1))))) (fun _ => rfl) ?_
              have hI476 : InvC (u2 (u2 dt454 79 39 (wr ((dt454 79 39) + 1))) 79 40 ((dt454 79 40) + 0)) := InvC_u2 hI464 (lo := -2147483648) (hi := 2147483647) rfl rfl rfl (by omega) (by omega)
              have hF477 : Fr [79, 88, 89, 90, 91, 92, 93, 94, 95, 96, 97, 98, 99, 100] dt (u2 (u2 dt454 79 39 (wr ((dt454 79 39) + 1))) 79 40 ((dt454 79 40) + 0)) := Fr_u2 hF465 (by decide)
              have w478 : (u2 (u2 dt454 79 39 (wr ((dt454 79 39) + 1))) 79 40 ((dt454 79 40) + 0)) 79 2 = (u2 dt454 79 39 (wr ((dt454 79 39) + 1))) 79 2 := rfl
              have w479 : (u2 (u2 dt454 79 39 (wr ((dt454 79 39) + 1))) 79 40 ((dt454 79 40) + 0)) 79 12 = (u2 dt454 79 39 (wr ((dt454 79 39) + 1))) 79 12 := rfl
              have w480 : (u2 (u2 dt454 79 39 (wr ((dt454 79 39) + 1))) 79 40 ((dt454 79 40) + 0)) 79 19 = (u2 dt454 79 39 (wr ((dt454 79 39) + 1))) 79 19 := rfl
              have w481 : (u2 (u2 dt454 79 39 (wr ((dt454 79 39) + 1))) 79 40 ((dt454 79 40) + 0)) 79 21 = (u2 dt454 79 39 (wr ((dt454 79 39) + 1))) 79 21 := rfl
              refine go_smp (L' := [some (.inr (.inr (some 79))), some (.inl p1), some (.inl l12_2)]) (st' := []) (w' := (SH, (u2 (u2 dt454 79 39 (wr ((dt454 79 39) + 1))) 79 40 ((dt454 79 40) + 0)))) rfl rfl (s_pf rfl rfl rfl rfl ⟨by omega, by omega⟩) ?_
              exact GO.le (j447 (u2 (u2 dt454 79 39 (wr ((dt454 79 39) + 1))) 79 40 ((dt454 79 40) + 0)) hI476 hF477 (by omega) (by omega) (by omega) (by omega)) ⟨.inl rfl, .inl rfl, .inl rfl, trivial⟩
            · skip
              refine go_to (k := 3) (pc' := 92) (L' := [some (.inr (.inr (some 79))), some (.inl p1), some (.inl l12_2)]) (st' := [.inl ((dt454 79 40) + 1), .inr (.inr (some 79))]) (w' := (SH, (u2 dt454 79 39 (wr ((dt454 79 39) + 1))))) (fun _ => rfl) ?_
              have r482 := wr_RR ((dt454 79 40) + 1)
              have hI483 : InvC (u2 (u2 dt454 79 39 (wr ((dt454 79 39) + 1))) 79 40 (wr ((dt454 79 40) + 1))) := InvC_u2 hI464 (lo := -2147483648) (hi := 2147483647) rfl rfl rfl (by omega) (by omega)
              have hF484 : Fr [79, 88, 89, 90, 91, 92, 93, 94, 95, 96, 97, 98, 99, 100] dt (u2 (u2 dt454 79 39 (wr ((dt454 79 39) + 1))) 79 40 (wr ((dt454 79 40) + 1))) := Fr_u2 hF465 (by decide)
              have w485 : (u2 (u2 dt454 79 39 (wr ((dt454 79 39) + 1))) 79 40 (wr ((dt454 79 40) + 1))) 79 2 = (u2 dt454 79 39 (wr ((dt454 79 39) + 1))) 79 2 := rfl
              have w486 : (u2 (u2 dt454 79 39 (wr ((dt454 79 39) + 1))) 79 40 (wr ((dt454 79 40) + 1))) 79 12 = (u2 dt454 79 39 (wr ((dt454 79 39) + 1))) 79 12 := rfl
              have w487 : (u2 (u2 dt454 79 39 (wr ((dt454 79 39) + 1))) 79 40 (wr ((dt454 79 40) + 1))) 79 19 = (u2 dt454 79 39 (wr ((dt454 79 39) + 1))) 79 19 := rfl
              have w488 : (u2 (u2 dt454 79 39 (wr ((dt454 79 39) + 1))) 79 40 (wr ((dt454 79 40) + 1))) 79 21 = (u2 dt454 79 39 (wr ((dt454 79 39) + 1))) 79 21 := rfl
              refine go_smp (L' := [some (.inr (.inr (some 79))), some (.inl p1), some (.inl l12_2)]) (st' := []) (w' := (SH, (u2 (u2 dt454 79 39 (wr ((dt454 79 39) + 1))) 79 40 (wr ((dt454 79 40) + 1))))) rfl rfl (s_pfw rfl rfl rfl rfl) ?_
              exact GO.le (j447 (u2 (u2 dt454 79 39 (wr ((dt454 79 39) + 1))) 79 40 (wr ((dt454 79 40) + 1))) hI483 hF484 (by omega) (by omega) (by omega) (by omega)) ⟨.inl rfl, .inl rfl, .inl rfl, trivial⟩
          · skip
            refine go_to (k := 2) (pc' := 95) (L' := [some (.inr (.inr (some 79))), some (.inl p1), some (.inl l12_2)]) (st' := []) (w' := (SH, dt454)) (fun _ => rfl) ?_
            exact GO.le (j447 dt454 hI455 hF457 (by omega) (by omega) (by omega) (by omega)) ⟨.inl rfl, .inl rfl, .inl rfl, trivial⟩
  exact GO.le (loop365 _ 0 (u2 (u2 dt 79 39 0) 79 40 0) hI7 hF8 (by omega) (by omega) (by omega) (by omega) (by omega) (Nat.lt_succ_self _)) ⟨.inl rfl, .inl rfl, .inl rfl, trivial⟩
set_option maxRecDepth 20000 in
theorem sp_X6_curve_k (L : Nat) (xs : Nat → Int32) (sio : Option Nat) (d : Nat) (dt : Nat → Nat → Int) (hI : InvC dt) (hM : MW (dt 80))  (p1 : Int) (h_p1 : (-2147483648) ≤ p1 ∧ p1 ≤ 2147483647) (p2 : Int) (h_p2 : (-2147483648) ≤ p2 ∧ p2 ≤ 2147483647)  : GO (am_XX L xs sio) (d + 8) 242 0 [some (.inr (.inr (some 79))), some (.inl p1), some (.inl p2), none, none] [] (SH, dt) (fun r w2 => ∃ dt2 : Nat → Nat → Int, w2 = (SH, dt2) ∧ InvC dt2 ∧ Fr [79, 88, 89, 90, 91, 92, 93, 94, 95, 96, 97, 98, 99, 100] dt dt2 ∧ ((∃ v : Int, r = some (.inl v) ∧ ((-2147483648) ≤ v ∧ v ≤ 2147483647) ∧ (dt2 79 2 = dt 79 2) ∧ (dt2 79 12 = dt 79 12) ∧ (dt2 79 19 = dt 79 19) ∧ (dt2 79 21 = dt 79 21)))) := by
  have hF : Fr [79, 88, 89, 90, 91, 92, 93, 94, 95, 96, 97, 98, 99, 100] dt dt := Fr_refl
  refine go_if (k := 3) (p1 := 58) (p2 := 5) (L' := [some (.inr (.inr (some 79))), some (.inl p1), some (.inl p2), none, none]) (st' := []) (w' := (SH, dt)) (fun _ => rfl) (c_ne (a := p1) (b := (-1)) ⟨by omega, by omega⟩ ⟨by omega, by omega⟩) (fun c1 => ?_) (fun c1 => ?_)
  · skip
    refine go_to (k := 3) (pc' := 62) (L' := [some (.inr (.inr (some 79))), some (.inl p1), some (.inl p2), none, none]) (st' := [.inl 20, .inl 0, .inl p1]) (w' := (SH, dt)) (fun _ => rfl) ?_
    refine go_call (Q' := _) rfl rfl rfl rfl rfl (sp_X6_isIn L xs sio (d + 7) dt hI  p1 ⟨by omega, by omega⟩ 0 ⟨by omega, by omega⟩ 20 ⟨by omega, by omega⟩ ) ?_
    rintro _ _ ⟨rfl, h2⟩
    refine ⟨rfl, ?_⟩
    rcases h2 with ⟨rfl, h2⟩ | ⟨rfl, h2⟩
    · skip
      refine go_to (k := 4) (pc' := 71) (L' := [some (.inr (.inr (some 79))), some (.inl p1), some (.inl p2), none, none]) (st' := [.inl 1, .inl 0, .inl p2]) (w' := (SH, dt)) (fun _ => rfl) ?_
      refine go_call (Q' := _) rfl rfl rfl rfl rfl (sp_X6_isIn L xs sio (d + 7) dt hI  p2 ⟨by omega, by omega⟩ 0 ⟨by omega, by omega⟩ 1 ⟨by omega, by omega⟩ ) ?_
      rintro _ _ ⟨rfl, h3⟩
      refine ⟨rfl, ?_⟩
      rcases h3 with ⟨rfl, h3⟩ | ⟨rfl, h3⟩
      · skip
        refine go_to (k := 3) (pc' := 82) (L' := [some (.inr (.inr (some 79))), some (.inl p1), some (.inl p2), none, none]) (st' := [.inl p1, .inr (.inr (some 79))]) (w' := (SH, dt)) (fun _ => rfl) ?_
        refine go_call (Q' := _) rfl rfl rfl rfl rfl (sp_X6_curves_k L xs sio (d + 0) dt hI hM  p1 ⟨by omega, by omega⟩ ) ?_
        rintro _ _ ⟨dt5, rfl, hI6, hF7, h4⟩
        refine ⟨rfl, ?_⟩
        have hF8 : Fr [79, 88, 89, 90, 91, 92, 93, 94, 95, 96, 97, 98, 99, 100] dt dt5 := Fr_tr hF hF7 (by decide)
        rcases h4 with ⟨rfl, h4⟩
        have j12 : ∀ (j12_s0 : Int) (i13 : (-2147483648) ≤ j12_s0 ∧ j12_s0 ≤ 2147483647), GO (am_XX L xs sio) (d + 8) 242 100 [some (.inr (.inr (some 79))), none, none, none, none] [.inl j12_s0] (SH, dt5) (fun r w2 => ∃ dt2 : Nat → Nat → Int, w2 = (SH, dt2) ∧ InvC dt2 ∧ Fr [79, 88, 89, 90, 91, 92, 93, 94, 95, 96, 97, 98, 99, 100] dt dt2 ∧ ((∃ v : Int, r = some (.inl v) ∧ ((-2147483648) ≤ v ∧ v ≤ 2147483647) ∧ (dt2 79 2 = dt 79 2) ∧ (dt2 79 12 = dt 79 12) ∧ (dt2 79 19 = dt 79 19) ∧ (dt2 79 21 = dt 79 21)))) := by
          intro j12_s0 i13
          refine go_ret (k := 1) (r := some (.inl j12_s0)) (w1 := (SH, dt5)) (fun _ => rfl) ?_
          exact ⟨dt5, rfl, hI6, hF8, ⟨_, rfl, ⟨by omega, by omega⟩, ⟨by first | trivial | omega, by first | trivial | omega, by first | trivial | omega, by first | trivial | omega⟩⟩⟩
        refine go_if (k := 2) (p1 := 96) (p2 := 89) (L' := [some (.inr (.inr (some 79))), some (.inl p1), some (.inl p2), none, none]) (st' := []) (w' := (SH, dt5)) (fun _ => rfl) (z_ne (a := p2) ⟨by omega, by omega⟩) (fun c14 => ?_) (fun c14 => ?_)
        · skip
          have r15 : (-2147483648) ≤ dt5 79 40 ∧ dt5 79 40 ≤ 2147483647 := InvC_get hI6 79 40 rfl rfl
          refine go_to (k := 2) (pc' := 100) (L' := [some (.inr (.inr (some 79))), some (.inl p1), some (.inl p2), none, none]) (st' := [.inl (dt5 79 40)]) (w' := (SH, dt5)) (fun _ => rfl) ?_
          exact GO.le (j12 (dt5 79 40) (by omega)) ⟨.inl rfl, .inr ⟨rfl, trivial⟩, .inr ⟨rfl, trivial⟩, .inl rfl, .inl rfl, trivial⟩
        · skip
          have r16 : (-2147483648) ≤ dt5 79 39 ∧ dt5 79 39 ≤ 2147483647 := InvC_get hI6 79 39 rfl rfl
          refine go_to (k := 3) (pc' := 100) (L' := [some (.inr (.inr (some 79))), some (.inl p1), some (.inl p2), none, none]) (st' := [.inl (dt5 79 39)]) (w' := (SH, dt5)) (fun _ => rfl) ?_
          exact GO.le (j12 (dt5 79 39) (by omega)) ⟨.inl rfl, .inr ⟨rfl, trivial⟩, .inr ⟨rfl, trivial⟩, .inl rfl, .inl rfl, trivial⟩
      · skip
        refine go_ret (k := 3) (r := some (.inl (-2))) (w1 := (SH, dt)) (fun _ => rfl) ?_
        exact ⟨dt, rfl, hI, hF, ⟨_, rfl, ⟨by omega, by omega⟩, ⟨by first | trivial | omega, by first | trivial | omega, by first | trivial | omega, by first | trivial | omega⟩⟩⟩
    · skip
      refine go_ret (k := 3) (r := some (.inl (-2))) (w1 := (SH, dt)) (fun _ => rfl) ?_
      exact ⟨dt, rfl, hI, hF, ⟨_, rfl, ⟨by omega, by omega⟩, ⟨by first | trivial | omega, by first | trivial | omega, by first | trivial | omega, by first | trivial | omega⟩⟩⟩
  · skip
    refine go_to (k := 4) (pc' := 11) (L' := [some (.inr (.inr (some 79))), some (.inl p1), some (.inl p2), some (.inl (-1)), some (.inl 20)]) (st' := []) (w' := (SH, dt)) (fun _ => rfl) ?_
    have loop143 : ∀ (k_ : Nat) (l11_3 : Int) (l11_4 : Int) (dt134 : Nat → Nat → Int) (hI135 : InvC dt134) (hF136 : Fr [79, 88, 89, 90, 91, 92, 93, 94, 95, 96, 97, 98, 99, 100] dt dt134) (i137 : (-1) ≤ l11_3 ∧ l11_3 ≤ 20) (i138 : (-1) ≤ l11_4 ∧ l11_4 ≤ 20) (i139 : dt134 79 2 = dt 79 2) (i140 : dt134 79 12 = dt 79 12) (i141 : dt134 79 19 = dt 79 19) (i142 : dt134 79 21 = dt 79 21), (l11_4 + 2).toNat < k_ → GO (am_XX L xs sio) (d + 8) 242 11 [some (.inr (.inr (some 79))), none, none, some (.inl l11_3), some (.inl l11_4)] [] (SH, dt134) (fun r w2 => ∃ dt2 : Nat → Nat → Int, w2 = (SH, dt2) ∧ InvC dt2 ∧ Fr [79, 88, 89, 90, 91, 92, 93, 94, 95, 96, 97, 98, 99, 100] dt dt2 ∧ ((∃ v : Int, r = some (.inl v) ∧ ((-2147483648) ≤ v ∧ v ≤ 2147483647) ∧ (dt2 79 2 = dt 79 2) ∧ (dt2 79 12 = dt 79 12) ∧ (dt2 79 19 = dt 79 19) ∧ (dt2 79 21 = dt 79 21)))) := by
      intro k_
      induction k_ with
      | zero => intro l11_3 l11_4 dt134 hI135 hF136 i137 i138 i139 i140 i141 i142 hm; exact absurd hm (Nat.not_lt_zero _)
      | succ k_ ih_loop143 =>
        intro l11_3 l11_4 dt134 hI135 hF136 i137 i138 i139 i140 i141 i142 hm
        refine go_if (k := 2) (p1 := 56) (p2 := 16) (L' := [some (.inr (.inr (some 79))), none, none, some (.inl l11_3), some (.inl l11_4)]) (st' := []) (w' := (SH, dt134)) (fun _ => rfl) (z_lt (a := l11_4) ⟨by omega, by omega⟩) (fun c144 => ?_) (fun c144 => ?_)
        · skip
          refine go_ret (k := 2) (r := some (.inl l11_3)) (w1 := (SH, dt134)) (fun _ => rfl) ?_
          exact ⟨dt134, rfl, hI135, hF136, ⟨_, rfl, ⟨by omega, by omega⟩, ⟨by first | trivial | omega, by first | trivial | omega, by first | trivial | omega, by first | trivial | omega⟩⟩⟩
        · skip
          refine go_to (k := 2) (pc' := 19) (L' := [some (.inr (.inr (some 79))), none, none, some (.inl l11_3), some (.inl l11_4)]) (st' := [.inl l11_4, .inr (.inr (some 79))]) (w' := (SH, dt134)) (fun _ => rfl) ?_
          refine go_call (Q' := _) rfl rfl rfl rfl rfl (sp_X6_curves_k L xs sio (d + 0) dt134 hI135 (MW_fr hM hF136 (by decide))  l11_4 ⟨by omega, by omega⟩ ) ?_
          rintro _ _ ⟨dt146, rfl, hI147, hF148, h145⟩
          refine ⟨rfl, ?_⟩
          have hF149 : Fr [79, 88, 89, 90, 91, 92, 93, 94, 95, 96, 97, 98, 99, 100] dt dt146 := Fr_tr hF136 hF148 (by decide)
          rcases h145 with ⟨rfl, h145⟩
          have r150 : (-2147483648) ≤ dt146 79 39 ∧ dt146 79 39 ≤ 2147483647 := InvC_get hI147 79 39 rfl rfl
          refine go_if (k := 3) (p1 := 32) (p2 := 29) (L' := [some (.inr (.inr (some 79))), none, none, some (.inl l11_3), some (.inl l11_4)]) (st' := []) (w' := (SH, dt146)) (fun _ => rfl) (z_ne (a := dt146 79 39) ⟨by omega, by omega⟩) (fun c151 => ?_) (fun c151 => ?_)
          · skip
            have r152 : (-2147483648) ≤ dt146 79 40 ∧ dt146 79 40 ≤ 2147483647 := InvC_get hI147 79 40 rfl rfl
            have r154 := wr_RR (2 * (dt146 79 40))
            have r155 := wr_RR (dt146 79 39)
            refine go_if (k := 7) (p1 := 47) (p2 := 45) (L' := [some (.inr (.inr (some 79))), none, none, some (.inl l11_3), some (.inl l11_4)]) (st' := []) (w' := (SH, dt146)) (fun _ => rfl) (u_ge (a := wr (2 * (dt146 79 40))) (b := wr (dt146 79 39))) (fun c153 => ?_) (fun c153 => ?_)
            · skip
              refine go_to (k := 4) (pc' := 11) (L' := [some (.inr (.inr (some 79))), none, none, some (.inl l11_4), some (.inl (l11_4 + (-1)))]) (st' := []) (w' := (SH, dt146)) (fun _ => rfl) ?_
              exact GO.le (ih_loop143 l11_4 (l11_4 + (-1)) dt146 hI147 hF149 (by omega) (by omega) (by omega) (by omega) (by omega) (by omega) (by omega)) ⟨.inl rfl, .inl rfl, .inl rfl, .inl rfl, .inl rfl, trivial⟩
            · skip
              refine go_ret (k := 2) (r := some (.inl l11_3)) (w1 := (SH, dt146)) (fun _ => rfl) ?_
              exact ⟨dt146, rfl, hI147, hF149, ⟨_, rfl, ⟨by omega, by omega⟩, ⟨by first | trivial | omega, by first | trivial | omega, by first | trivial | omega, by first | trivial | omega⟩⟩⟩
          · skip
            refine go_to (k := 3) (pc' := 11) (L' := [some (.inr (.inr (some 79))), none, none, some (.inl l11_3), some (.inl (l11_4 + (-1)))]) (st' := []) (w' := (SH, dt146)) (fun _ => rfl) ?_
            exact GO.le (ih_loop143 l11_3 (l11_4 + (-1)) dt146 hI147 hF149 (by omega) (by omega) (by omega) (by omega) (by omega) (by omega) (by omega)) ⟨.inl rfl, .inl rfl, .inl rfl, .inl rfl, .inl rfl, trivial⟩
    exact GO.le (loop143 _ (-1) 20 dt hI hF (by omega) (by omega) (by omega) (by omega) (by omega) (by omega) (Nat.lt_succ_self _)) ⟨.inl rfl, .inr ⟨rfl, trivial⟩, .inr ⟨rfl, trivial⟩, .inl rfl, .inl rfl, trivial⟩
set_option maxRecDepth 20000 in
theorem sp_X6_image_1k (L : Nat) (xs : Nat → Int32) (sio : Option Nat) (d : Nat) (dt : Nat → Nat → Int) (hI : InvC dt) (hM : MW (dt 80))    : GO (am_XX L xs sio) (d) 247 0 [some (.inr (.inr (some 79))), some (.inl 1), none] [] (SH, dt) (fun r w2 => ∃ dt2 : Nat → Nat → Int, w2 = (SH, dt2) ∧ InvC dt2 ∧ Fr [79, 81] dt dt2 ∧ ((r = some (.inl 1) ∧ (dt2 79 2 = 1) ∧ (MW (dt2 80)) ∧ (MW (dt2 81)) ∧ (∀ j, j < 6 → dt2 80 j = dt 80 j) ∧ (∀ j, j < 6 → dt2 81 j = dt 80 j) ∧ (dt2 79 12 = dt 79 12) ∧ (dt2 79 19 = dt 79 19) ∧ (dt2 79 21 = dt 79 21)))) := by
  have hF : Fr [79, 81] dt dt := Fr_refl
  refine go_to (k := 4) (pc' := 15) (L' := [some (.inr (.inr (some 79))), some (.inl 1), some (.inl 0)]) (st' := []) (w' := (SH, dt)) (fun _ => rfl) ?_
  have loop81 : ∀ (k_ : Nat) (l15_2 : Int) (dt73 : Nat → Nat → Int) (hI74 : InvC dt73) (hF75 : Fr [79, 81] dt dt73) (i76 : 0 ≤ l15_2 ∧ l15_2 ≤ 7460) (i77 : ∀ j : Nat, (j : Int) < l15_2 → dt73 81 j = dt 80 j) (i78 : dt73 79 12 = dt 79 12) (i79 : dt73 79 19 = dt 79 19) (i80 : dt73 79 21 = dt 79 21), (7461 - l15_2).toNat < k_ → GO (am_XX L xs sio) (d) 247 15 [some (.inr (.inr (some 79))), some (.inl 1), some (.inl l15_2)] [] (SH, dt73) (fun r w2 => ∃ dt2 : Nat → Nat → Int, w2 = (SH, dt2) ∧ InvC dt2 ∧ Fr [79, 81] dt dt2 ∧ ((r = some (.inl 1) ∧ (dt2 79 2 = 1) ∧ (MW (dt2 80)) ∧ (MW (dt2 81)) ∧ (∀ j, j < 6 → dt2 80 j = dt 80 j) ∧ (∀ j, j < 6 → dt2 81 j = dt 80 j) ∧ (dt2 79 12 = dt 79 12) ∧ (dt2 79 19 = dt 79 19) ∧ (dt2 79 21 = dt 79 21)))) := by
    intro k_
    induction k_ with
    | zero => intro l15_2 dt73 hI74 hF75 i76 i77 i78 i79 i80 hm; exact absurd hm (Nat.not_lt_zero _)
    | succ k_ ih_loop81 =>
      intro l15_2 dt73 hI74 hF75 i76 i77 i78 i79 i80 hm
      refine go_if (k := 3) (p1 := 59) (p2 := 22) (L' := [some (.inr (.inr (some 79))), some (.inl 1), some (.inl l15_2)]) (st' := []) (w' := (SH, dt73)) (fun _ => rfl) (c_ge (a := l15_2) (b := 7460) ⟨by omega, by omega⟩ ⟨by omega, by omega⟩) (fun c82 => ?_) (fun c82 => ?_)
      · skip
        refine go_to (k := 2) (pc' := 61) (L' := [some (.inr (.inr (some 79))), some (.inl 1), some (.inl l15_2)]) (st' := [.inl 1, .inr (.inr (some 79))]) (w' := (SH, dt73)) (fun _ => rfl) ?_
        have hI83 : InvC (u2 dt73 79 2 1) := InvC_u2 hI74 (lo := 0) (hi := 1) rfl rfl rfl (by omega) (by omega)
        have hF84 : Fr [79, 81] dt (u2 dt73 79 2 1) := Fr_u2 hF75 (by decide)
        have w85 : (u2 dt73 79 2 1) 79 12 = dt73 79 12 := rfl
        have w86 : (u2 dt73 79 2 1) 79 19 = dt73 79 19 := rfl
        have w87 : (u2 dt73 79 2 1) 79 21 = dt73 79 21 := rfl
        refine go_smp (L' := [some (.inr (.inr (some 79))), some (.inl 1), some (.inl l15_2)]) (st' := []) (w' := (SH, (u2 dt73 79 2 1))) rfl rfl (s_pfz rfl rfl rfl rfl (by omega)) ?_
        refine go_ret (k := 2) (r := some (.inl 1)) (w1 := (SH, (u2 dt73 79 2 1))) (fun _ => rfl) ?_
        exact ⟨(u2 dt73 79 2 1), rfl, hI83, hF84, ⟨rfl, ⟨by rfl, by exact MW_frk hM (by assumption) (by decide), by exact im_mw hM (by assumption) (by omega), by exact fun j _ => fr_at (by assumption) (by decide) j, by exact im_6 (by assumption) (by omega), by first | trivial | omega, by first | trivial | omega, by first | trivial | omega⟩⟩⟩
      · skip
        refine go_to (k := 8) (pc' := 36) (L' := [some (.inr (.inr (some 79))), some (.inl 1), some (.inl l15_2)]) (st' := [.inl l15_2, .inr (.inr (some 80)), .inl l15_2, .inr (.inr (some 81))]) (w' := (SH, dt73)) (fun _ => rfl) ?_
        have r88 : (-2147483648) ≤ dt 80 (l15_2).toNat ∧ dt 80 (l15_2).toNat ≤ 2147483647 := InvC_get hI 80 (l15_2).toNat rfl rfl
        refine go_smp (L' := [some (.inr (.inr (some 79))), some (.inl 1), some (.inl l15_2)]) (st' := [.inl (dt 80 (l15_2).toNat), .inl l15_2, .inr (.inr (some 81))]) (w' := (SH, dt73)) rfl rfl (s_ev (s_iald (n := 7460) (f := dt73 80) rfl ⟨by omega, by omega⟩) (hF75 80 (by decide) _)) ?_
        have hI89 : InvC (u2 dt73 81 (l15_2).toNat (dt 80 (l15_2).toNat)) := InvC_u2 hI74 (lo := -2147483648) (hi := 2147483647) rfl rfl rfl (by omega) (by omega)
        have hF90 : Fr [79, 81] dt (u2 dt73 81 (l15_2).toNat (dt 80 (l15_2).toNat)) := Fr_u2 hF75 (by decide)
        have w91 : (u2 dt73 81 (l15_2).toNat (dt 80 (l15_2).toNat)) 79 12 = dt73 79 12 := rfl
        have w92 : (u2 dt73 81 (l15_2).toNat (dt 80 (l15_2).toNat)) 79 19 = dt73 79 19 := rfl
        have w93 : (u2 dt73 81 (l15_2).toNat (dt 80 (l15_2).toNat)) 79 21 = dt73 79 21 := rfl
        refine go_smp (L' := [some (.inr (.inr (some 79))), some (.inl 1), some (.inl l15_2)]) (st' := []) (w' := (SH, (u2 dt73 81 (l15_2).toNat (dt 80 (l15_2).toNat)))) rfl rfl (s_iast (n := 7460) rfl ⟨by omega, by omega⟩ ⟨by omega, by omega⟩) ?_
        refine go_to (k := 3) (pc' := 15) (L' := [some (.inr (.inr (some 79))), some (.inl 1), some (.inl (l15_2 + 1))]) (st' := []) (w' := (SH, (u2 dt73 81 (l15_2).toNat (dt 80 (l15_2).toNat)))) (fun _ => rfl) ?_
        exact GO.le (ih_loop81 (l15_2 + 1) (u2 dt73 81 (l15_2).toNat (dt 80 (l15_2).toNat)) hI89 hF90 (by first | omega | exact im_0 | exact im_step (by assumption) (by omega) rfl) (by first | omega | exact im_0 | exact im_step (by assumption) (by omega) rfl) (by first | omega | exact im_0 | exact im_step (by assumption) (by omega) rfl) (by first | omega | exact im_0 | exact im_step (by assumption) (by omega) rfl) (by first | omega | exact im_0 | exact im_step (by assumption) (by omega) rfl) (by omega)) ⟨.inl rfl, .inl rfl, .inl rfl, trivial⟩
  exact GO.le (loop81 _ 0 dt hI hF (by first | omega | exact im_0 | exact im_step (by assumption) (by omega) rfl) (by first | omega | exact im_0 | exact im_step (by assumption) (by omega) rfl) (by first | omega | exact im_0 | exact im_step (by assumption) (by omega) rfl) (by first | omega | exact im_0 | exact im_step (by assumption) (by omega) rfl) (by first | omega | exact im_0 | exact im_step (by assumption) (by omega) rfl) (Nat.lt_succ_self _)) ⟨.inl rfl, .inl rfl, .inl rfl, trivial⟩
set_option maxRecDepth 20000 in
theorem sp_X6_image_0k (L : Nat) (xs : Nat → Int32) (sio : Option Nat) (d : Nat) (dt : Nat → Nat → Int) (hI : InvC dt) (hM : MW (dt 80))   (h_p0 : MW (dt 81)) : GO (am_XX L xs sio) (d) 247 0 [some (.inr (.inr (some 79))), some (.inl 0), none] [] (SH, dt) (fun r w2 => ∃ dt2 : Nat → Nat → Int, w2 = (SH, dt2) ∧ InvC dt2 ∧ Fr [79, 80] dt dt2 ∧ ((r = some (.inl 0) ∧ (dt 79 2 = 0) ∧ (dt2 79 2 = 0) ∧ (MW (dt2 80)) ∧ (MW (dt2 81)) ∧ (∀ j, j < 6 → dt2 80 j = dt 80 j) ∧ (∀ j, j < 6 → dt2 81 j = dt 81 j) ∧ (dt2 79 12 = dt 79 12) ∧ (dt2 79 19 = dt 79 19) ∧ (dt2 79 21 = dt 79 21)) ∨ (r = some (.inl 1) ∧ (¬ dt 79 2 = 0) ∧ (dt2 79 2 = 1) ∧ (MW (dt2 80)) ∧ (MW (dt2 81)) ∧ (∀ j, j < 6 → dt2 80 j = dt 81 j) ∧ (∀ j, j < 6 → dt2 81 j = dt 81 j) ∧ (dt2 79 12 = dt 79 12) ∧ (dt2 79 19 = dt 79 19) ∧ (dt2 79 21 = dt 79 21)))) := by
  have hF : Fr [79, 80] dt dt := Fr_refl
  have r1 : 0 ≤ dt 79 2 ∧ dt 79 2 ≤ 1 := InvC_get hI 79 2 rfl rfl
  refine go_if (k := 5) (p1 := 13) (p2 := 11) (L' := [some (.inr (.inr (some 79))), some (.inl 0), none]) (st' := []) (w' := (SH, dt)) (fun _ => rfl) (z_ne (a := dt 79 2) ⟨by omega, by omega⟩) (fun c2 => ?_) (fun c2 => ?_)
  · skip
    refine go_to (k := 2) (pc' := 15) (L' := [some (.inr (.inr (some 79))), some (.inl 0), some (.inl 0)]) (st' := []) (w' := (SH, dt)) (fun _ => rfl) ?_
    have loop83 : ∀ (k_ : Nat) (l15_2 : Int) (dt75 : Nat → Nat → Int) (hI76 : InvC dt75) (hF77 : Fr [79, 80] dt dt75) (i78 : 0 ≤ l15_2 ∧ l15_2 ≤ 7460) (i79 : ∀ j : Nat, (j : Int) < l15_2 → dt75 80 j = dt 81 j) (i80 : dt75 79 12 = dt 79 12) (i81 : dt75 79 19 = dt 79 19) (i82 : dt75 79 21 = dt 79 21), (7461 - l15_2).toNat < k_ → GO (am_XX L xs sio) (d) 247 15 [some (.inr (.inr (some 79))), some (.inl 0), some (.inl l15_2)] [] (SH, dt75) (fun r w2 => ∃ dt2 : Nat → Nat → Int, w2 = (SH, dt2) ∧ InvC dt2 ∧ Fr [79, 80] dt dt2 ∧ ((r = some (.inl 0) ∧ (dt 79 2 = 0) ∧ (dt2 79 2 = 0) ∧ (MW (dt2 80)) ∧ (MW (dt2 81)) ∧ (∀ j, j < 6 → dt2 80 j = dt 80 j) ∧ (∀ j, j < 6 → dt2 81 j = dt 81 j) ∧ (dt2 79 12 = dt 79 12) ∧ (dt2 79 19 = dt 79 19) ∧ (dt2 79 21 = dt 79 21)) ∨ (r = some (.inl 1) ∧ (¬ dt 79 2 = 0) ∧ (dt2 79 2 = 1) ∧ (MW (dt2 80)) ∧ (MW (dt2 81)) ∧ (∀ j, j < 6 → dt2 80 j = dt 81 j) ∧ (∀ j, j < 6 → dt2 81 j = dt 81 j) ∧ (dt2 79 12 = dt 79 12) ∧ (dt2 79 19 = dt 79 19) ∧ (dt2 79 21 = dt 79 21)))) := by
      intro k_
      induction k_ with
      | zero => intro l15_2 dt75 hI76 hF77 i78 i79 i80 i81 i82 hm; exact absurd hm (Nat.not_lt_zero _)
      | succ k_ ih_loop83 =>
        intro l15_2 dt75 hI76 hF77 i78 i79 i80 i81 i82 hm
        refine go_if (k := 3) (p1 := 59) (p2 := 22) (L' := [some (.inr (.inr (some 79))), some (.inl 0), some (.inl l15_2)]) (st' := []) (w' := (SH, dt75)) (fun _ => rfl) (c_ge (a := l15_2) (b := 7460) ⟨by omega, by omega⟩ ⟨by omega, by omega⟩) (fun c84 => ?_) (fun c84 => ?_)
        · skip
          refine go_to (k := 2) (pc' := 61) (L' := [some (.inr (.inr (some 79))), some (.inl 0), some (.inl l15_2)]) (st' := [.inl 1, .inr (.inr (some 79))]) (w' := (SH, dt75)) (fun _ => rfl) ?_
          have hI85 : InvC (u2 dt75 79 2 1) := InvC_u2 hI76 (lo := 0) (hi := 1) rfl rfl rfl (by omega) (by omega)
          have hF86 : Fr [79, 80] dt (u2 dt75 79 2 1) := Fr_u2 hF77 (by decide)
          have w87 : (u2 dt75 79 2 1) 79 12 = dt75 79 12 := rfl
          have w88 : (u2 dt75 79 2 1) 79 19 = dt75 79 19 := rfl
          have w89 : (u2 dt75 79 2 1) 79 21 = dt75 79 21 := rfl
          refine go_smp (L' := [some (.inr (.inr (some 79))), some (.inl 0), some (.inl l15_2)]) (st' := []) (w' := (SH, (u2 dt75 79 2 1))) rfl rfl (s_pfz rfl rfl rfl rfl (by omega)) ?_
          refine go_ret (k := 2) (r := some (.inl 1)) (w1 := (SH, (u2 dt75 79 2 1))) (fun _ => rfl) ?_
          exact ⟨(u2 dt75 79 2 1), rfl, hI85, hF86, (Or.inr ⟨rfl, ⟨by first | trivial | omega, by rfl, by exact im_mw h_p0 (by assumption) (by omega), by exact MW_frk h_p0 (by assumption) (by decide), by exact im_6 (by assumption) (by omega), by exact fun j _ => fr_at (by assumption) (by decide) j, by first | trivial | omega, by first | trivial | omega, by first | trivial | omega⟩⟩)⟩
        · skip
          refine go_to (k := 8) (pc' := 51) (L' := [some (.inr (.inr (some 79))), some (.inl 0), some (.inl l15_2)]) (st' := [.inl l15_2, .inr (.inr (some 81)), .inl l15_2, .inr (.inr (some 80))]) (w' := (SH, dt75)) (fun _ => rfl) ?_
          have r90 : (-2147483648) ≤ dt 81 (l15_2).toNat ∧ dt 81 (l15_2).toNat ≤ 2147483647 := InvC_get hI 81 (l15_2).toNat rfl rfl
          refine go_smp (L' := [some (.inr (.inr (some 79))), some (.inl 0), some (.inl l15_2)]) (st' := [.inl (dt 81 (l15_2).toNat), .inl l15_2, .inr (.inr (some 80))]) (w' := (SH, dt75)) rfl rfl (s_ev (s_iald (n := 7460) (f := dt75 81) rfl ⟨by omega, by omega⟩) (hF77 81 (by decide) _)) ?_
          have hI91 : InvC (u2 dt75 80 (l15_2).toNat (dt 81 (l15_2).toNat)) := InvC_u2 hI76 (lo := -2147483648) (hi := 2147483647) rfl rfl rfl (by omega) (by omega)
          have hF92 : Fr [79, 80] dt (u2 dt75 80 (l15_2).toNat (dt 81 (l15_2).toNat)) := Fr_u2 hF77 (by decide)
          have w93 : (u2 dt75 80 (l15_2).toNat (dt 81 (l15_2).toNat)) 79 12 = dt75 79 12 := rfl
          have w94 : (u2 dt75 80 (l15_2).toNat (dt 81 (l15_2).toNat)) 79 19 = dt75 79 19 := rfl
          have w95 : (u2 dt75 80 (l15_2).toNat (dt 81 (l15_2).toNat)) 79 21 = dt75 79 21 := rfl
          refine go_smp (L' := [some (.inr (.inr (some 79))), some (.inl 0), some (.inl l15_2)]) (st' := []) (w' := (SH, (u2 dt75 80 (l15_2).toNat (dt 81 (l15_2).toNat)))) rfl rfl (s_iast (n := 7460) rfl ⟨by omega, by omega⟩ ⟨by omega, by omega⟩) ?_
          refine go_to (k := 2) (pc' := 15) (L' := [some (.inr (.inr (some 79))), some (.inl 0), some (.inl (l15_2 + 1))]) (st' := []) (w' := (SH, (u2 dt75 80 (l15_2).toNat (dt 81 (l15_2).toNat)))) (fun _ => rfl) ?_
          exact GO.le (ih_loop83 (l15_2 + 1) (u2 dt75 80 (l15_2).toNat (dt 81 (l15_2).toNat)) hI91 hF92 (by first | omega | exact im_0 | exact im_step (by assumption) (by omega) rfl) (by first | omega | exact im_0 | exact im_step (by assumption) (by omega) rfl) (by first | omega | exact im_0 | exact im_step (by assumption) (by omega) rfl) (by first | omega | exact im_0 | exact im_step (by assumption) (by omega) rfl) (by first | omega | exact im_0 | exact im_step (by assumption) (by omega) rfl) (by omega)) ⟨.inl rfl, .inl rfl, .inl rfl, trivial⟩
    exact GO.le (loop83 _ 0 dt hI hF (by first | omega | exact im_0 | exact im_step (by assumption) (by omega) rfl) (by first | omega | exact im_0 | exact im_step (by assumption) (by omega) rfl) (by first | omega | exact im_0 | exact im_step (by assumption) (by omega) rfl) (by first | omega | exact im_0 | exact im_step (by assumption) (by omega) rfl) (by first | omega | exact im_0 | exact im_step (by assumption) (by omega) rfl) (Nat.lt_succ_self _)) ⟨.inl rfl, .inl rfl, .inl rfl, trivial⟩
  · skip
    refine go_ret (k := 2) (r := some (.inl 0)) (w1 := (SH, dt)) (fun _ => rfl) ?_
    exact ⟨dt, rfl, hI, hF, (Or.inl ⟨rfl, ⟨by first | trivial | omega, by first | assumption | omega, by exact hM, by exact h_p0, by exact fun j _ => rfl, by exact fun j _ => rfl, by first | trivial | omega, by first | trivial | omega, by first | trivial | omega⟩⟩)⟩
