set_option maxRecDepth 20000 in
theorem sp_X6_argument (L : Nat) (xs : Nat → Int32) (sio : Option Nat) (d : Nat) (dt : Nat → Nat → Int) (hI : InvC dt)  (p1 : Int) (h_p1 : 1 ≤ p1 ∧ p1 ≤ 4) (p2 : Int) (h_p2 : 0 ≤ p2 ∧ p2 ≤ 3) (h_p0 : (¬ dt 79 14 = 0 → dt 79 15 + 1 ≤ dt 79 13) ∧ dt 79 13 ≤ 500) (h_p1 : dt 79 10 ≤ 23) : GO (am_XX L xs sio) (d + 8) 171 0 [some (.inr (.inr (some 79))), some (.inl p1), some (.inl p2)] [] (SH, dt) (fun r w2 => ∃ dt2 : Nat → Nat → Int, w2 = (SH, dt2) ∧ InvC dt2 ∧ Fr [79, 82] dt dt2 ∧ ((r = some (.inl 0) ∧ (dt2 79 2 = dt 79 2) ∧ (dt2 79 9 = dt 79 9) ∧ (dt2 79 10 = dt 79 10) ∧ (dt2 79 12 = dt 79 12)) ∨ (r = some (.inl 1) ∧ (∀ j : Nat, ¬ (j : Int) = 5 * dt 79 10 + p1 → dt2 82 j = dt 82 j) ∧ (∀ q : Int, q = 5 * dt 79 10 + p1 → 0 ≤ dt2 82 q.toNat ∧ dt2 82 q.toNat ≤ p2) ∧ (dt 79 15 + 1 ≤ dt2 79 15) ∧ ((¬ dt2 79 14 = 0 → dt2 79 15 + 1 ≤ dt2 79 13) ∧ dt2 79 13 ≤ 500) ∧ (dt2 79 15 ≤ 500) ∧ (dt2 79 2 = dt 79 2) ∧ (dt2 79 9 = dt 79 9) ∧ (dt2 79 10 = dt 79 10) ∧ (dt2 79 11 = dt 79 11) ∧ (dt2 79 12 = dt 79 12) ∧ (dt2 79 20 = dt 79 20)))) := by
  have hF : Fr [79, 82] dt dt := Fr_refl
  have r1 : 0 ≤ dt 79 15 ∧ dt 79 15 ≤ 500 := InvC_get hI 79 15 rfl rfl
  have r2 : 0 ≤ dt 79 11 ∧ dt 79 11 ≤ 510 := InvC_get hI 79 11 rfl rfl
  have r3 : 0 ≤ dt 79 10 ∧ dt 79 10 ≤ 24 := InvC_get hI 79 10 rfl rfl
  have r4 : 0 ≤ dt 79 16 ∧ dt 79 16 ≤ 9999 := InvC_get hI 79 16 rfl rfl
  refine go_to (k := 10) (pc' := 16) (L' := [some (.inr (.inr (some 79))), some (.inl p1), some (.inl p2)]) (st' := [.inl (dt 79 16), .inl ((5 * (dt 79 10)) + p1), .inr (.inr (some 82))]) (w' := (SH, dt)) (fun _ => rfl) ?_
  have hI5 : InvC (u2 dt 82 (((5 * (dt 79 10)) + p1).toNat) (dt 79 16)) := InvC_u2 hI (lo := -2147483648) (hi := 2147483647) rfl rfl rfl (by omega) (by omega)
  have hF6 : Fr [79, 82] dt (u2 dt 82 (((5 * (dt 79 10)) + p1).toNat) (dt 79 16)) := Fr_u2 hF (by decide)
  have w7 : (u2 dt 82 (((5 * (dt 79 10)) + p1).toNat) (dt 79 16)) 79 2 = dt 79 2 := rfl
  have w8 : (u2 dt 82 (((5 * (dt 79 10)) + p1).toNat) (dt 79 16)) 79 9 = dt 79 9 := rfl
  have w9 : (u2 dt 82 (((5 * (dt 79 10)) + p1).toNat) (dt 79 16)) 79 10 = dt 79 10 := rfl
  have w10 : (u2 dt 82 (((5 * (dt 79 10)) + p1).toNat) (dt 79 16)) 79 11 = dt 79 11 := rfl
  have w11 : (u2 dt 82 (((5 * (dt 79 10)) + p1).toNat) (dt 79 16)) 79 12 = dt 79 12 := rfl
  have w12 : (u2 dt 82 (((5 * (dt 79 10)) + p1).toNat) (dt 79 16)) 79 13 = dt 79 13 := rfl
  have w13 : (u2 dt 82 (((5 * (dt 79 10)) + p1).toNat) (dt 79 16)) 79 14 = dt 79 14 := rfl
  have w14 : (u2 dt 82 (((5 * (dt 79 10)) + p1).toNat) (dt 79 16)) 79 15 = dt 79 15 := rfl
  have w15 : (u2 dt 82 (((5 * (dt 79 10)) + p1).toNat) (dt 79 16)) 79 16 = dt 79 16 := rfl
  have w16 : (u2 dt 82 (((5 * (dt 79 10)) + p1).toNat) (dt 79 16)) 79 20 = dt 79 20 := rfl
  refine go_smp (L' := [some (.inr (.inr (some 79))), some (.inl p1), some (.inl p2)]) (st' := []) (w' := (SH, (u2 dt 82 (((5 * (dt 79 10)) + p1).toNat) (dt 79 16)))) rfl rfl (s_iast (n := 120) rfl ⟨by omega, by omega⟩ ⟨by omega, by omega⟩) ?_
  refine go_to (k := 3) (pc' := 20) (L' := [some (.inr (.inr (some 79))), some (.inl p1), some (.inl p2)]) (st' := [.inl p2, .inl 0, .inr (.inr (some 79))]) (w' := (SH, (u2 dt 82 (((5 * (dt 79 10)) + p1).toNat) (dt 79 16)))) (fun _ => rfl) ?_
  refine go_call (Q' := _) rfl rfl rfl rfl rfl (sp_X6_number L xs sio (d + 0) (u2 dt 82 (((5 * (dt 79 10)) + p1).toNat) (dt 79 16)) hI5  0 ⟨by omega, by omega⟩ p2 ⟨by omega, by omega⟩ (by first | trivial | omega)) ?_
  rintro _ _ ⟨dt18, rfl, hI19, hF20, h17⟩
  refine ⟨rfl, ?_⟩
  have hF21 : Fr [79, 82] dt dt18 := Fr_tr hF6 hF20 (by decide)
  rcases h17 with ⟨rfl, h17⟩ | ⟨rfl, h17⟩
  · skip
    have EB22 : ∀ j, dt18 82 j = (u2 dt 82 (((5 * (dt 79 10)) + p1).toNat) (dt 79 16)) 82 j := fun j => hF20 82 (by decide) j
    refine go_ret (k := 1) (r := some (.inl 0)) (w1 := (SH, dt18)) (fun _ => rfl) ?_
    exact ⟨dt18, rfl, hI19, hF21, (Or.inl ⟨rfl, ⟨by first | trivial | omega, by first | trivial | omega, by first | trivial | omega, by first | trivial | omega⟩⟩)⟩
  · skip
    have EB23 : ∀ j, dt18 82 j = (u2 dt 82 (((5 * (dt 79 10)) + p1).toNat) (dt 79 16)) 82 j := fun j => hF20 82 (by decide) j
    refine go_ret (k := 1) (r := some (.inl 1)) (w1 := (SH, dt18)) (fun _ => rfl) ?_
    exact ⟨dt18, rfl, hI19, hF21, (Or.inr ⟨rfl, ⟨by intro j hj; rw [EB23 j]; exact u2_ne (by omega), by intro q hq; subst hq; rw [EB23, show u2 dt 82 ((5 * (dt 79 10)) + p1).toNat (dt 79 16) 82 (5 * dt 79 10 + p1).toNat = dt 79 16 from u2_eq]; omega, by first | trivial | omega, by first | trivial | omega, by exact (InvC_get (by assumption) 79 15 rfl rfl).2, by first | trivial | omega, by first | trivial | omega, by first | trivial | omega, by first | trivial | omega, by first | trivial | omega, by first | trivial | omega⟩⟩)⟩
set_option maxRecDepth 20000 in
theorem sp_X6_anAct (L : Nat) (xs : Nat → Int32) (sio : Option Nat) (d : Nat) (dt : Nat → Nat → Int) (hI : InvC dt)   (h_p0 : (¬ dt 79 14 = 0 → dt 79 15 + 1 ≤ dt 79 13) ∧ dt 79 13 ≤ 500) : GO (am_XX L xs sio) (d + 9) 172 0 [some (.inr (.inr (some 79))), none] [] (SH, dt) (fun r w2 => ∃ dt2 : Nat → Nat → Int, w2 = (SH, dt2) ∧ InvC dt2 ∧ Fr [79, 82] dt dt2 ∧ ((r = some (.inl 0) ∧ (dt2 79 2 = dt 79 2) ∧ (dt2 79 9 = dt 79 9) ∧ (dt2 79 12 = dt 79 12)) ∨ (r = some (.inl 1) ∧ (dt 79 10 ≤ 23) ∧ (∀ j : Nat, (j : Int) < 5 * dt 79 10 → dt2 82 j = dt 82 j) ∧ (aOK (dt2 82 ((5 * (dt 79 10))).toNat) (dt2 82 ((5 * (dt 79 10)) + 1).toNat) (dt2 82 ((5 * (dt 79 10)) + 2).toNat) (dt2 82 ((5 * (dt 79 10)) + 3).toNat) (dt2 82 ((5 * (dt 79 10)) + 4).toNat)) ∧ (dt 79 15 + 1 ≤ dt2 79 15) ∧ ((¬ dt2 79 14 = 0 → dt2 79 15 + 1 ≤ dt2 79 13) ∧ dt2 79 13 ≤ 500) ∧ (dt2 79 15 ≤ 500) ∧ (dt2 79 2 = dt 79 2) ∧ (dt2 79 9 = dt 79 9) ∧ (dt2 79 10 = dt 79 10) ∧ (dt2 79 11 = dt 79 11) ∧ (dt2 79 12 = dt 79 12)))) := by
  have hF : Fr [79, 82] dt dt := Fr_refl
  have r1 : 0 ≤ dt 79 15 ∧ dt 79 15 ≤ 500 := InvC_get hI 79 15 rfl rfl
  have r2 : 0 ≤ dt 79 11 ∧ dt 79 11 ≤ 510 := InvC_get hI 79 11 rfl rfl
  have r3 : 0 ≤ dt 79 10 ∧ dt 79 10 ≤ 24 := InvC_get hI 79 10 rfl rfl
  have r4 : (-2147483648) ≤ dt 79 14 ∧ dt 79 14 ≤ 2147483647 := InvC_get hI 79 14 rfl rfl
  refine go_to (k := 4) (pc' := 8) (L' := [some (.inr (.inr (some 79))), none]) (st' := [.inl 28, .inl 20, .inl (dt 79 14)]) (w' := (SH, dt)) (fun _ => rfl) ?_
  refine go_call (Q' := _) rfl rfl rfl rfl rfl (sp_X6_isIn L xs sio (d + 8) dt hI  (dt 79 14) ⟨by omega, by omega⟩ 20 ⟨by omega, by omega⟩ 28 ⟨by omega, by omega⟩ ) ?_
  rintro _ _ ⟨rfl, h5⟩
  refine ⟨rfl, ?_⟩
  rcases h5 with ⟨rfl, h5⟩ | ⟨rfl, h5⟩
  · skip
    refine go_if (k := 5) (p1 := 35) (p2 := 29) (L' := [some (.inr (.inr (some 79))), none]) (st' := []) (w' := (SH, dt)) (fun _ => rfl) (c_ne (a := dt 79 10) (b := 24) ⟨by omega, by omega⟩ ⟨by omega, by omega⟩) (fun c6 => ?_) (fun c6 => ?_)
    · skip
      refine go_to (k := 6) (pc' := 44) (L' := [some (.inr (.inr (some 79))), some (.inl ((dt 79 14) - 20))]) (st' := [.inr (.inr (some 79))]) (w' := (SH, dt)) (fun _ => rfl) ?_
      refine go_call (Q' := _) rfl rfl rfl rfl rfl (sp_X6_next0 L xs sio (d + 2) dt hI   (by first | trivial | omega)) ?_
      rintro _ _ ⟨dt8, rfl, hI9, hF10, h7⟩
      refine ⟨rfl, ?_⟩
      have hF11 : Fr [79, 82] dt dt8 := Fr_tr hF hF10 (by decide)
      have E8412 : dt8 84 = dt 84 := funext (hF10 84 (by decide))
      rcases h7 with ⟨rfl, h7⟩
      obtain ⟨h7_0, h7_1, h7_2, h7_3, h7_4, h7_5, h7_6, h7_7, h7_8⟩ := h7
      have BL13 : ∀ j : Nat, (j : Int) < 5 * dt 79 10 → dt8 82 j = dt 82 j := fun j hj => (hF10 82 (by decide) j).trans ((fun _ _ => rfl) j hj)
      have y14 : dt8 82 ((5 * (dt 79 10))).toNat = dt 82 ((5 * (dt 79 10))).toNat := hF10 82 (by decide) _
      have y15 : dt8 82 ((5 * (dt 79 10)) + 1).toNat = dt 82 ((5 * (dt 79 10)) + 1).toNat := hF10 82 (by decide) _
      have y16 : dt8 82 ((5 * (dt 79 10)) + 2).toNat = dt 82 ((5 * (dt 79 10)) + 2).toNat := hF10 82 (by decide) _
      have y17 : dt8 82 ((5 * (dt 79 10)) + 3).toNat = dt 82 ((5 * (dt 79 10)) + 3).toNat := hF10 82 (by decide) _
      have y18 : dt8 82 ((5 * (dt 79 10)) + 4).toNat = dt 82 ((5 * (dt 79 10)) + 4).toNat := hF10 82 (by decide) _
      have r19 : 0 ≤ dt8 79 10 ∧ dt8 79 10 ≤ 24 := InvC_get hI9 79 10 rfl rfl
      refine go_to (k := 7) (pc' := 58) (L' := [some (.inr (.inr (some 79))), some (.inl ((dt 79 14) - 20))]) (st' := [.inl ((dt 79 14) - 20), .inl (5 * (dt8 79 10)), .inr (.inr (some 82))]) (w' := (SH, dt8)) (fun _ => rfl) ?_
      have hI20 : InvC (u2 dt8 82 ((5 * (dt8 79 10)).toNat) ((dt 79 14) - 20)) := InvC_u2 hI9 (lo := -2147483648) (hi := 2147483647) rfl rfl rfl (by omega) (by omega)
      have hF21 : Fr [79, 82] dt (u2 dt8 82 ((5 * (dt8 79 10)).toNat) ((dt 79 14) - 20)) := Fr_u2 hF11 (by decide)
      have w22 : (u2 dt8 82 ((5 * (dt8 79 10)).toNat) ((dt 79 14) - 20)) 79 2 = dt8 79 2 := rfl
      have w23 : (u2 dt8 82 ((5 * (dt8 79 10)).toNat) ((dt 79 14) - 20)) 79 9 = dt8 79 9 := rfl
      have w24 : (u2 dt8 82 ((5 * (dt8 79 10)).toNat) ((dt 79 14) - 20)) 79 10 = dt8 79 10 := rfl
      have w25 : (u2 dt8 82 ((5 * (dt8 79 10)).toNat) ((dt 79 14) - 20)) 79 11 = dt8 79 11 := rfl
      have w26 : (u2 dt8 82 ((5 * (dt8 79 10)).toNat) ((dt 79 14) - 20)) 79 12 = dt8 79 12 := rfl
      have w27 : (u2 dt8 82 ((5 * (dt8 79 10)).toNat) ((dt 79 14) - 20)) 79 13 = dt8 79 13 := rfl
      have w28 : (u2 dt8 82 ((5 * (dt8 79 10)).toNat) ((dt 79 14) - 20)) 79 14 = dt8 79 14 := rfl
      have w29 : (u2 dt8 82 ((5 * (dt8 79 10)).toNat) ((dt 79 14) - 20)) 79 15 = dt8 79 15 := rfl
      have w30 : (u2 dt8 82 ((5 * (dt8 79 10)).toNat) ((dt 79 14) - 20)) 79 16 = dt8 79 16 := rfl
      have w31 : (u2 dt8 82 ((5 * (dt8 79 10)).toNat) ((dt 79 14) - 20)) 79 20 = dt8 79 20 := rfl
      have E8432 : (u2 dt8 82 ((5 * (dt8 79 10)).toNat) ((dt 79 14) - 20)) 84 = dt 84 := (funext fun _ => u2_ne (by omega)).trans E8412
      have ex34 : ((5 * (dt 79 10))).toNat = (5 * (dt8 79 10)).toNat := by omega
      have BL33 : ∀ j : Nat, (j : Int) < 5 * dt 79 10 → (u2 dt8 82 ((5 * (dt8 79 10)).toNat) ((dt 79 14) - 20)) 82 j = dt 82 j := fun j hj => (u2_ne (by omega)).trans (BL13 j hj)
      have y35 : (u2 dt8 82 ((5 * (dt8 79 10)).toNat) ((dt 79 14) - 20)) 82 ((5 * (dt 79 10))).toNat = (dt 79 14) - 20 := by rw [ex34]; exact u2_eq
      have y36 : (u2 dt8 82 ((5 * (dt8 79 10)).toNat) ((dt 79 14) - 20)) 82 ((5 * (dt 79 10)) + 1).toNat = dt8 82 ((5 * (dt 79 10)) + 1).toNat := u2_ne (by omega)
      have y37 : (u2 dt8 82 ((5 * (dt8 79 10)).toNat) ((dt 79 14) - 20)) 82 ((5 * (dt 79 10)) + 2).toNat = dt8 82 ((5 * (dt 79 10)) + 2).toNat := u2_ne (by omega)
      have y38 : (u2 dt8 82 ((5 * (dt8 79 10)).toNat) ((dt 79 14) - 20)) 82 ((5 * (dt 79 10)) + 3).toNat = dt8 82 ((5 * (dt 79 10)) + 3).toNat := u2_ne (by omega)
      have y39 : (u2 dt8 82 ((5 * (dt8 79 10)).toNat) ((dt 79 14) - 20)) 82 ((5 * (dt 79 10)) + 4).toNat = dt8 82 ((5 * (dt 79 10)) + 4).toNat := u2_ne (by omega)
      refine go_smp (L' := [some (.inr (.inr (some 79))), some (.inl ((dt 79 14) - 20))]) (st' := []) (w' := (SH, (u2 dt8 82 ((5 * (dt8 79 10)).toNat) ((dt 79 14) - 20)))) rfl rfl (s_iast (n := 120) rfl ⟨by omega, by omega⟩ ⟨by omega, by omega⟩) ?_
      refine go_if (k := 5) (p1 := 71) (p2 := 67) (L' := [some (.inr (.inr (some 79))), some (.inl ((dt 79 14) - 20))]) (st' := [.inl 1, .inr (.inr (some 79))]) (w' := (SH, (u2 dt8 82 ((5 * (dt8 79 10)).toNat) ((dt 79 14) - 20)))) (fun _ => rfl) (c_ne (a := (dt 79 14) - 20) (b := 8) ⟨by omega, by omega⟩ ⟨by omega, by omega⟩) (fun c40 => ?_) (fun c40 => ?_)
      · skip
        refine go_to (k := 1) (pc' := 72) (L' := [some (.inr (.inr (some 79))), some (.inl ((dt 79 14) - 20))]) (st' := [.inl 3, .inl 1, .inr (.inr (some 79))]) (w' := (SH, (u2 dt8 82 ((5 * (dt8 79 10)).toNat) ((dt 79 14) - 20)))) (fun _ => rfl) ?_
        refine go_call (Q' := _) rfl rfl rfl rfl rfl (sp_X6_argument L xs sio (d + 0) (u2 dt8 82 ((5 * (dt8 79 10)).toNat) ((dt 79 14) - 20)) hI20  1 ⟨by omega, by omega⟩ 3 ⟨by omega, by omega⟩ (by first | trivial | omega) (by first | trivial | omega)) ?_
        rintro _ _ ⟨dt42, rfl, hI43, hF44, h41⟩
        refine ⟨rfl, ?_⟩
        have hF45 : Fr [79, 82] dt dt42 := Fr_tr hF21 hF44 (by decide)
        have E8446 : dt42 84 = dt 84 := (funext (hF44 84 (by decide))).trans E8432
        rcases h41 with ⟨rfl, h41⟩ | ⟨rfl, h41⟩
        · skip
          obtain ⟨h41_0, h41_1, h41_2, h41_3⟩ := h41
          refine go_ret (k := 3) (r := some (.inl 0)) (w1 := (SH, dt42)) (fun _ => rfl) ?_
          exact ⟨dt42, rfl, hI43, hF45, (Or.inl ⟨rfl, ⟨by first | trivial | omega, by first | trivial | omega, by first | trivial | omega⟩⟩)⟩
        · skip
          obtain ⟨h41_0, h41_1, h41_2, h41_3, h41_4, h41_5, h41_6, h41_7, h41_8, h41_9, h41_10⟩ := h41
          have BL47 : ∀ j : Nat, (j : Int) < 5 * dt 79 10 → dt42 82 j = dt 82 j := fun j hj => (h41_0 j (by omega)).trans (BL33 j hj)
          have y48 := h41_0 ((5 * (dt 79 10))).toNat
          have y49 := h41_0 ((5 * (dt 79 10)) + 1).toNat
          have y50 := h41_0 ((5 * (dt 79 10)) + 2).toNat
          have y51 := h41_0 ((5 * (dt 79 10)) + 3).toNat
          have y52 := h41_0 ((5 * (dt 79 10)) + 4).toNat
          have y53 := h41_1 ((5 * (dt 79 10)) + 1) (by omega)
          refine go_if (k := 4) (p1 := 130) (p2 := 85) (L' := [some (.inr (.inr (some 79))), some (.inl ((dt 79 14) - 20))]) (st' := []) (w' := (SH, dt42)) (fun _ => rfl) (c_ne (a := (dt 79 14) - 20) (b := 4) ⟨by omega, by omega⟩ ⟨by omega, by omega⟩) (fun c54 => ?_) (fun c54 => ?_)
          · skip
            refine go_if (k := 3) (p1 := 145) (p2 := 135) (L' := [some (.inr (.inr (some 79))), some (.inl ((dt 79 14) - 20))]) (st' := []) (w' := (SH, dt42)) (fun _ => rfl) (c_eq (a := (dt 79 14) - 20) (b := 2) ⟨by omega, by omega⟩ ⟨by omega, by omega⟩) (fun c55 => ?_) (fun c55 => ?_)
            · skip
              refine go_to (k := 3) (pc' := 148) (L' := [some (.inr (.inr (some 79))), some (.inl ((dt 79 14) - 20))]) (st' := [.inl 2, .inl 2, .inr (.inr (some 79))]) (w' := (SH, dt42)) (fun _ => rfl) ?_
              refine go_call (Q' := _) rfl rfl rfl rfl rfl (sp_X6_argument L xs sio (d + 0) dt42 hI43  2 ⟨by omega, by omega⟩ 2 ⟨by omega, by omega⟩ (by first | trivial | omega) (by first | trivial | omega)) ?_
              rintro _ _ ⟨dt57, rfl, hI58, hF59, h56⟩
              refine ⟨rfl, ?_⟩
              have hF60 : Fr [79, 82] dt dt57 := Fr_tr hF45 hF59 (by decide)
              have E8461 : dt57 84 = dt 84 := (funext (hF59 84 (by decide))).trans E8446
              rcases h56 with ⟨rfl, h56⟩ | ⟨rfl, h56⟩
              · skip
                obtain ⟨h56_0, h56_1, h56_2, h56_3⟩ := h56
                refine go_ret (k := 3) (r := some (.inl 0)) (w1 := (SH, dt57)) (fun _ => rfl) ?_
                exact ⟨dt57, rfl, hI58, hF60, (Or.inl ⟨rfl, ⟨by first | trivial | omega, by first | trivial | omega, by first | trivial | omega⟩⟩)⟩
              · skip
                obtain ⟨h56_0, h56_1, h56_2, h56_3, h56_4, h56_5, h56_6, h56_7, h56_8, h56_9, h56_10⟩ := h56
                have BL62 : ∀ j : Nat, (j : Int) < 5 * dt 79 10 → dt57 82 j = dt 82 j := fun j hj => (h56_0 j (by omega)).trans (BL47 j hj)
                have y63 := h56_0 ((5 * (dt 79 10))).toNat
                have y64 := h56_0 ((5 * (dt 79 10)) + 1).toNat
                have y65 := h56_0 ((5 * (dt 79 10)) + 2).toNat
                have y66 := h56_0 ((5 * (dt 79 10)) + 3).toNat
                have y67 := h56_0 ((5 * (dt 79 10)) + 4).toNat
                have y68 := h56_1 ((5 * (dt 79 10)) + 2) (by omega)
                refine go_if (k := 4) (p1 := 176) (p2 := 161) (L' := [some (.inr (.inr (some 79))), some (.inl ((dt 79 14) - 20))]) (st' := []) (w' := (SH, dt57)) (fun _ => rfl) (c_eq (a := (dt 79 14) - 20) (b := 2) ⟨by omega, by omega⟩ ⟨by omega, by omega⟩) (fun c69 => ?_) (fun c69 => ?_)
                · skip
                  refine go_to (k := 3) (pc' := 179) (L' := [some (.inr (.inr (some 79))), some (.inl ((dt 79 14) - 20))]) (st' := [.inl 3, .inl 3, .inr (.inr (some 79))]) (w' := (SH, dt57)) (fun _ => rfl) ?_
                  refine go_call (Q' := _) rfl rfl rfl rfl rfl (sp_X6_argument L xs sio (d + 0) dt57 hI58  3 ⟨by omega, by omega⟩ 3 ⟨by omega, by omega⟩ (by first | trivial | omega) (by first | trivial | omega)) ?_
                  rintro _ _ ⟨dt71, rfl, hI72, hF73, h70⟩
                  refine ⟨rfl, ?_⟩
                  have hF74 : Fr [79, 82] dt dt71 := Fr_tr hF60 hF73 (by decide)
                  have E8475 : dt71 84 = dt 84 := (funext (hF73 84 (by decide))).trans E8461
                  rcases h70 with ⟨rfl, h70⟩ | ⟨rfl, h70⟩
                  · skip
                    obtain ⟨h70_0, h70_1, h70_2, h70_3⟩ := h70
                    refine go_ret (k := 3) (r := some (.inl 0)) (w1 := (SH, dt71)) (fun _ => rfl) ?_
                    exact ⟨dt71, rfl, hI72, hF74, (Or.inl ⟨rfl, ⟨by first | trivial | omega, by first | trivial | omega, by first | trivial | omega⟩⟩)⟩
                  · skip
                    obtain ⟨h70_0, h70_1, h70_2, h70_3, h70_4, h70_5, h70_6, h70_7, h70_8, h70_9, h70_10⟩ := h70
                    have BL76 : ∀ j : Nat, (j : Int) < 5 * dt 79 10 → dt71 82 j = dt 82 j := fun j hj => (h70_0 j (by omega)).trans (BL62 j hj)
                    have y77 := h70_0 ((5 * (dt 79 10))).toNat
                    have y78 := h70_0 ((5 * (dt 79 10)) + 1).toNat
                    have y79 := h70_0 ((5 * (dt 79 10)) + 2).toNat
                    have y80 := h70_0 ((5 * (dt 79 10)) + 3).toNat
                    have y81 := h70_0 ((5 * (dt 79 10)) + 4).toNat
                    have y82 := h70_1 ((5 * (dt 79 10)) + 3) (by omega)
                    refine go_if (k := 4) (p1 := 204) (p2 := 193) (L' := [some (.inr (.inr (some 79))), some (.inl ((dt 79 14) - 20))]) (st' := []) (w' := (SH, dt71)) (fun _ => rfl) (c_ne (a := (dt 79 14) - 20) (b := 6) ⟨by omega, by omega⟩ ⟨by omega, by omega⟩) (fun c83 => ?_) (fun c83 => ?_)
                    · skip
                      refine go_to (k := 2) (pc' := 208) (L' := [some (.inr (.inr (some 79))), some (.inl ((dt 79 14) - 20))]) (st' := [.inl 159, .inr (.inr (some 79))]) (w' := (SH, dt71)) (fun _ => rfl) ?_
                      refine go_call (Q' := _) rfl rfl rfl rfl rfl (sp_X6_need0 L xs sio (d + 1) dt71 hI72  159 ⟨by omega, by omega⟩ (by first | trivial | omega)) ?_
                      rintro _ _ ⟨dt85, rfl, hI86, hF87, h84⟩
                      refine ⟨rfl, ?_⟩
                      have hF88 : Fr [79, 82] dt dt85 := Fr_tr hF74 hF87 (by decide)
                      have E8489 : dt85 84 = dt 84 := (funext (hF87 84 (by decide))).trans E8475
                      rcases h84 with ⟨rfl, h84⟩ | ⟨rfl, h84⟩
                      · skip
                        obtain ⟨h84_0, h84_1, h84_2, h84_3⟩ := h84
                        have BL90 : ∀ j : Nat, (j : Int) < 5 * dt 79 10 → dt85 82 j = dt 82 j := fun j hj => (hF87 82 (by decide) j).trans (BL76 j hj)
                        have y91 : dt85 82 ((5 * (dt 79 10))).toNat = dt71 82 ((5 * (dt 79 10))).toNat := hF87 82 (by decide) _
                        have y92 : dt85 82 ((5 * (dt 79 10)) + 1).toNat = dt71 82 ((5 * (dt 79 10)) + 1).toNat := hF87 82 (by decide) _
                        have y93 : dt85 82 ((5 * (dt 79 10)) + 2).toNat = dt71 82 ((5 * (dt 79 10)) + 2).toNat := hF87 82 (by decide) _
                        have y94 : dt85 82 ((5 * (dt 79 10)) + 3).toNat = dt71 82 ((5 * (dt 79 10)) + 3).toNat := hF87 82 (by decide) _
                        have y95 : dt85 82 ((5 * (dt 79 10)) + 4).toNat = dt71 82 ((5 * (dt 79 10)) + 4).toNat := hF87 82 (by decide) _
                        refine go_ret (k := 1) (r := some (.inl 0)) (w1 := (SH, dt85)) (fun _ => rfl) ?_
                        exact ⟨dt85, rfl, hI86, hF88, (Or.inl ⟨rfl, ⟨by first | trivial | omega, by first | trivial | omega, by first | trivial | omega⟩⟩)⟩
                      · skip
                        obtain ⟨h84_0, h84_1, h84_2, h84_3, h84_4, h84_5, h84_6, h84_7, h84_8⟩ := h84
                        have BL96 : ∀ j : Nat, (j : Int) < 5 * dt 79 10 → dt85 82 j = dt 82 j := fun j hj => (hF87 82 (by decide) j).trans (BL76 j hj)
                        have y97 : dt85 82 ((5 * (dt 79 10))).toNat = dt71 82 ((5 * (dt 79 10))).toNat := hF87 82 (by decide) _
                        have y98 : dt85 82 ((5 * (dt 79 10)) + 1).toNat = dt71 82 ((5 * (dt 79 10)) + 1).toNat := hF87 82 (by decide) _
                        have y99 : dt85 82 ((5 * (dt 79 10)) + 2).toNat = dt71 82 ((5 * (dt 79 10)) + 2).toNat := hF87 82 (by decide) _
                        have y100 : dt85 82 ((5 * (dt 79 10)) + 3).toNat = dt71 82 ((5 * (dt 79 10)) + 3).toNat := hF87 82 (by decide) _
                        have y101 : dt85 82 ((5 * (dt 79 10)) + 4).toNat = dt71 82 ((5 * (dt 79 10)) + 4).toNat := hF87 82 (by decide) _
                        refine go_ret (k := 1) (r := some (.inl 1)) (w1 := (SH, dt85)) (fun _ => rfl) ?_
                        exact ⟨dt85, rfl, hI86, hF88, (Or.inr ⟨rfl, ⟨by first | trivial | omega, by exact BL96, by unfold aOK; omega, by first | trivial | omega, by first | trivial | omega, by exact (InvC_get (by assumption) 79 15 rfl rfl).2, by first | trivial | omega, by first | trivial | omega, by first | trivial | omega, by first | trivial | omega, by first | trivial | omega⟩⟩)⟩
                    · exfalso; omega
                · skip
                  refine go_if (k := 3) (p1 := 176) (p2 := 166) (L' := [some (.inr (.inr (some 79))), some (.inl ((dt 79 14) - 20))]) (st' := []) (w' := (SH, dt57)) (fun _ => rfl) (c_eq (a := (dt 79 14) - 20) (b := 3) ⟨by omega, by omega⟩ ⟨by omega, by omega⟩) (fun c102 => ?_) (fun c102 => ?_)
                  · exfalso; omega
                  · skip
                    refine go_if (k := 3) (p1 := 176) (p2 := 171) (L' := [some (.inr (.inr (some 79))), some (.inl ((dt 79 14) - 20))]) (st' := []) (w' := (SH, dt57)) (fun _ => rfl) (c_eq (a := (dt 79 14) - 20) (b := 4) ⟨by omega, by omega⟩ ⟨by omega, by omega⟩) (fun c103 => ?_) (fun c103 => ?_)
                    · exfalso; omega
                    · skip
                      refine go_if (k := 3) (p1 := 187) (p2 := 176) (L' := [some (.inr (.inr (some 79))), some (.inl ((dt 79 14) - 20))]) (st' := []) (w' := (SH, dt57)) (fun _ => rfl) (c_ne (a := (dt 79 14) - 20) (b := 5) ⟨by omega, by omega⟩ ⟨by omega, by omega⟩) (fun c104 => ?_) (fun c104 => ?_)
                      · skip
                        refine go_if (k := 3) (p1 := 204) (p2 := 193) (L' := [some (.inr (.inr (some 79))), some (.inl ((dt 79 14) - 20))]) (st' := []) (w' := (SH, dt57)) (fun _ => rfl) (c_ne (a := (dt 79 14) - 20) (b := 6) ⟨by omega, by omega⟩ ⟨by omega, by omega⟩) (fun c105 => ?_) (fun c105 => ?_)
                        · skip
                          refine go_to (k := 2) (pc' := 208) (L' := [some (.inr (.inr (some 79))), some (.inl ((dt 79 14) - 20))]) (st' := [.inl 159, .inr (.inr (some 79))]) (w' := (SH, dt57)) (fun _ => rfl) ?_
                          refine go_call (Q' := _) rfl rfl rfl rfl rfl (sp_X6_need0 L xs sio (d + 1) dt57 hI58  159 ⟨by omega, by omega⟩ (by first | trivial | omega)) ?_
                          rintro _ _ ⟨dt107, rfl, hI108, hF109, h106⟩
                          refine ⟨rfl, ?_⟩
                          have hF110 : Fr [79, 82] dt dt107 := Fr_tr hF60 hF109 (by decide)
                          have E84111 : dt107 84 = dt 84 := (funext (hF109 84 (by decide))).trans E8461
                          rcases h106 with ⟨rfl, h106⟩ | ⟨rfl, h106⟩
                          · skip
                            obtain ⟨h106_0, h106_1, h106_2, h106_3⟩ := h106
                            have BL112 : ∀ j : Nat, (j : Int) < 5 * dt 79 10 → dt107 82 j = dt 82 j := fun j hj => (hF109 82 (by decide) j).trans (BL62 j hj)
                            have y113 : dt107 82 ((5 * (dt 79 10))).toNat = dt57 82 ((5 * (dt 79 10))).toNat := hF109 82 (by decide) _
                            have y114 : dt107 82 ((5 * (dt 79 10)) + 1).toNat = dt57 82 ((5 * (dt 79 10)) + 1).toNat := hF109 82 (by decide) _
                            have y115 : dt107 82 ((5 * (dt 79 10)) + 2).toNat = dt57 82 ((5 * (dt 79 10)) + 2).toNat := hF109 82 (by decide) _
                            have y116 : dt107 82 ((5 * (dt 79 10)) + 3).toNat = dt57 82 ((5 * (dt 79 10)) + 3).toNat := hF109 82 (by decide) _
                            have y117 : dt107 82 ((5 * (dt 79 10)) + 4).toNat = dt57 82 ((5 * (dt 79 10)) + 4).toNat := hF109 82 (by decide) _
                            refine go_ret (k := 1) (r := some (.inl 0)) (w1 := (SH, dt107)) (fun _ => rfl) ?_
                            exact ⟨dt107, rfl, hI108, hF110, (Or.inl ⟨rfl, ⟨by first | trivial | omega, by first | trivial | omega, by first | trivial | omega⟩⟩)⟩
                          · skip
                            obtain ⟨h106_0, h106_1, h106_2, h106_3, h106_4, h106_5, h106_6, h106_7, h106_8⟩ := h106
                            have BL118 : ∀ j : Nat, (j : Int) < 5 * dt 79 10 → dt107 82 j = dt 82 j := fun j hj => (hF109 82 (by decide) j).trans (BL62 j hj)
                            have y119 : dt107 82 ((5 * (dt 79 10))).toNat = dt57 82 ((5 * (dt 79 10))).toNat := hF109 82 (by decide) _
                            have y120 : dt107 82 ((5 * (dt 79 10)) + 1).toNat = dt57 82 ((5 * (dt 79 10)) + 1).toNat := hF109 82 (by decide) _
                            have y121 : dt107 82 ((5 * (dt 79 10)) + 2).toNat = dt57 82 ((5 * (dt 79 10)) + 2).toNat := hF109 82 (by decide) _
                            have y122 : dt107 82 ((5 * (dt 79 10)) + 3).toNat = dt57 82 ((5 * (dt 79 10)) + 3).toNat := hF109 82 (by decide) _
                            have y123 : dt107 82 ((5 * (dt 79 10)) + 4).toNat = dt57 82 ((5 * (dt 79 10)) + 4).toNat := hF109 82 (by decide) _
                            refine go_ret (k := 1) (r := some (.inl 1)) (w1 := (SH, dt107)) (fun _ => rfl) ?_
                            exact ⟨dt107, rfl, hI108, hF110, (Or.inr ⟨rfl, ⟨by first | trivial | omega, by exact BL118, by unfold aOK; omega, by first | trivial | omega, by first | trivial | omega, by exact (InvC_get (by assumption) 79 15 rfl rfl).2, by first | trivial | omega, by first | trivial | omega, by first | trivial | omega, by first | trivial | omega, by first | trivial | omega⟩⟩)⟩
                        · exfalso; omega
                      · exfalso; omega
            · skip
              refine go_if (k := 3) (p1 := 145) (p2 := 140) (L' := [some (.inr (.inr (some 79))), some (.inl ((dt 79 14) - 20))]) (st' := []) (w' := (SH, dt42)) (fun _ => rfl) (c_eq (a := (dt 79 14) - 20) (b := 3) ⟨by omega, by omega⟩ ⟨by omega, by omega⟩) (fun c124 => ?_) (fun c124 => ?_)
              · skip
                refine go_to (k := 3) (pc' := 148) (L' := [some (.inr (.inr (some 79))), some (.inl ((dt 79 14) - 20))]) (st' := [.inl 2, .inl 2, .inr (.inr (some 79))]) (w' := (SH, dt42)) (fun _ => rfl) ?_
                refine go_call (Q' := _) rfl rfl rfl rfl rfl (sp_X6_argument L xs sio (d + 0) dt42 hI43  2 ⟨by omega, by omega⟩ 2 ⟨by omega, by omega⟩ (by first | trivial | omega) (by first | trivial | omega)) ?_
                rintro _ _ ⟨dt126, rfl, hI127, hF128, h125⟩
                refine ⟨rfl, ?_⟩
                have hF129 : Fr [79, 82] dt dt126 := Fr_tr hF45 hF128 (by decide)
                have E84130 : dt126 84 = dt 84 := (funext (hF128 84 (by decide))).trans E8446
                rcases h125 with ⟨rfl, h125⟩ | ⟨rfl, h125⟩
                · skip
                  obtain ⟨h125_0, h125_1, h125_2, h125_3⟩ := h125
                  refine go_ret (k := 3) (r := some (.inl 0)) (w1 := (SH, dt126)) (fun _ => rfl) ?_
                  exact ⟨dt126, rfl, hI127, hF129, (Or.inl ⟨rfl, ⟨by first | trivial | omega, by first | trivial | omega, by first | trivial | omega⟩⟩)⟩
                · skip
                  obtain ⟨h125_0, h125_1, h125_2, h125_3, h125_4, h125_5, h125_6, h125_7, h125_8, h125_9, h125_10⟩ := h125
                  have BL131 : ∀ j : Nat, (j : Int) < 5 * dt 79 10 → dt126 82 j = dt 82 j := fun j hj => (h125_0 j (by omega)).trans (BL47 j hj)
                  have y132 := h125_0 ((5 * (dt 79 10))).toNat
                  have y133 := h125_0 ((5 * (dt 79 10)) + 1).toNat
                  have y134 := h125_0 ((5 * (dt 79 10)) + 2).toNat
                  have y135 := h125_0 ((5 * (dt 79 10)) + 3).toNat
                  have y136 := h125_0 ((5 * (dt 79 10)) + 4).toNat
                  have y137 := h125_1 ((5 * (dt 79 10)) + 2) (by omega)
                  refine go_if (k := 4) (p1 := 176) (p2 := 161) (L' := [some (.inr (.inr (some 79))), some (.inl ((dt 79 14) - 20))]) (st' := []) (w' := (SH, dt126)) (fun _ => rfl) (c_eq (a := (dt 79 14) - 20) (b := 2) ⟨by omega, by omega⟩ ⟨by omega, by omega⟩) (fun c138 => ?_) (fun c138 => ?_)
                  · exfalso; omega
                  · skip
                    refine go_if (k := 3) (p1 := 176) (p2 := 166) (L' := [some (.inr (.inr (some 79))), some (.inl ((dt 79 14) - 20))]) (st' := []) (w' := (SH, dt126)) (fun _ => rfl) (c_eq (a := (dt 79 14) - 20) (b := 3) ⟨by omega, by omega⟩ ⟨by omega, by omega⟩) (fun c139 => ?_) (fun c139 => ?_)
                    · skip
                      refine go_to (k := 3) (pc' := 179) (L' := [some (.inr (.inr (some 79))), some (.inl ((dt 79 14) - 20))]) (st' := [.inl 3, .inl 3, .inr (.inr (some 79))]) (w' := (SH, dt126)) (fun _ => rfl) ?_
                      refine go_call (Q' := _) rfl rfl rfl rfl rfl (sp_X6_argument L xs sio (d + 0) dt126 hI127  3 ⟨by omega, by omega⟩ 3 ⟨by omega, by omega⟩ (by first | trivial | omega) (by first | trivial | omega)) ?_
                      rintro _ _ ⟨dt141, rfl, hI142, hF143, h140⟩
                      refine ⟨rfl, ?_⟩
                      have hF144 : Fr [79, 82] dt dt141 := Fr_tr hF129 hF143 (by decide)
                      have E84145 : dt141 84 = dt 84 := (funext (hF143 84 (by decide))).trans E84130
                      rcases h140 with ⟨rfl, h140⟩ | ⟨rfl, h140⟩
                      · skip
                        obtain ⟨h140_0, h140_1, h140_2, h140_3⟩ := h140
                        refine go_ret (k := 3) (r := some (.inl 0)) (w1 := (SH, dt141)) (fun _ => rfl) ?_
                        exact ⟨dt141, rfl, hI142, hF144, (Or.inl ⟨rfl, ⟨by first | trivial | omega, by first | trivial | omega, by first | trivial | omega⟩⟩)⟩
                      · skip
                        obtain ⟨h140_0, h140_1, h140_2, h140_3, h140_4, h140_5, h140_6, h140_7, h140_8, h140_9, h140_10⟩ := h140
                        have BL146 : ∀ j : Nat, (j : Int) < 5 * dt 79 10 → dt141 82 j = dt 82 j := fun j hj => (h140_0 j (by omega)).trans (BL131 j hj)
                        have y147 := h140_0 ((5 * (dt 79 10))).toNat
                        have y148 := h140_0 ((5 * (dt 79 10)) + 1).toNat
                        have y149 := h140_0 ((5 * (dt 79 10)) + 2).toNat
                        have y150 := h140_0 ((5 * (dt 79 10)) + 3).toNat
                        have y151 := h140_0 ((5 * (dt 79 10)) + 4).toNat
                        have y152 := h140_1 ((5 * (dt 79 10)) + 3) (by omega)
                        refine go_if (k := 4) (p1 := 204) (p2 := 193) (L' := [some (.inr (.inr (some 79))), some (.inl ((dt 79 14) - 20))]) (st' := []) (w' := (SH, dt141)) (fun _ => rfl) (c_ne (a := (dt 79 14) - 20) (b := 6) ⟨by omega, by omega⟩ ⟨by omega, by omega⟩) (fun c153 => ?_) (fun c153 => ?_)
                        · skip
                          refine go_to (k := 2) (pc' := 208) (L' := [some (.inr (.inr (some 79))), some (.inl ((dt 79 14) - 20))]) (st' := [.inl 159, .inr (.inr (some 79))]) (w' := (SH, dt141)) (fun _ => rfl) ?_
                          refine go_call (Q' := _) rfl rfl rfl rfl rfl (sp_X6_need0 L xs sio (d + 1) dt141 hI142  159 ⟨by omega, by omega⟩ (by first | trivial | omega)) ?_
                          rintro _ _ ⟨dt155, rfl, hI156, hF157, h154⟩
                          refine ⟨rfl, ?_⟩
                          have hF158 : Fr [79, 82] dt dt155 := Fr_tr hF144 hF157 (by decide)
                          have E84159 : dt155 84 = dt 84 := (funext (hF157 84 (by decide))).trans E84145
                          rcases h154 with ⟨rfl, h154⟩ | ⟨rfl, h154⟩
                          · skip
                            obtain ⟨h154_0, h154_1, h154_2, h154_3⟩ := h154
                            have BL160 : ∀ j : Nat, (j : Int) < 5 * dt 79 10 → dt155 82 j = dt 82 j := fun j hj => (hF157 82 (by decide) j).trans (BL146 j hj)
                            have y161 : dt155 82 ((5 * (dt 79 10))).toNat = dt141 82 ((5 * (dt 79 10))).toNat := hF157 82 (by decide) _
                            have y162 : dt155 82 ((5 * (dt 79 10)) + 1).toNat = dt141 82 ((5 * (dt 79 10)) + 1).toNat := hF157 82 (by decide) _
                            have y163 : dt155 82 ((5 * (dt 79 10)) + 2).toNat = dt141 82 ((5 * (dt 79 10)) + 2).toNat := hF157 82 (by decide) _
                            have y164 : dt155 82 ((5 * (dt 79 10)) + 3).toNat = dt141 82 ((5 * (dt 79 10)) + 3).toNat := hF157 82 (by decide) _
                            have y165 : dt155 82 ((5 * (dt 79 10)) + 4).toNat = dt141 82 ((5 * (dt 79 10)) + 4).toNat := hF157 82 (by decide) _
                            refine go_ret (k := 1) (r := some (.inl 0)) (w1 := (SH, dt155)) (fun _ => rfl) ?_
                            exact ⟨dt155, rfl, hI156, hF158, (Or.inl ⟨rfl, ⟨by first | trivial | omega, by first | trivial | omega, by first | trivial | omega⟩⟩)⟩
                          · skip
                            obtain ⟨h154_0, h154_1, h154_2, h154_3, h154_4, h154_5, h154_6, h154_7, h154_8⟩ := h154
                            have BL166 : ∀ j : Nat, (j : Int) < 5 * dt 79 10 → dt155 82 j = dt 82 j := fun j hj => (hF157 82 (by decide) j).trans (BL146 j hj)
                            have y167 : dt155 82 ((5 * (dt 79 10))).toNat = dt141 82 ((5 * (dt 79 10))).toNat := hF157 82 (by decide) _
                            have y168 : dt155 82 ((5 * (dt 79 10)) + 1).toNat = dt141 82 ((5 * (dt 79 10)) + 1).toNat := hF157 82 (by decide) _
                            have y169 : dt155 82 ((5 * (dt 79 10)) + 2).toNat = dt141 82 ((5 * (dt 79 10)) + 2).toNat := hF157 82 (by decide) _
                            have y170 : dt155 82 ((5 * (dt 79 10)) + 3).toNat = dt141 82 ((5 * (dt 79 10)) + 3).toNat := hF157 82 (by decide) _
                            have y171 : dt155 82 ((5 * (dt 79 10)) + 4).toNat = dt141 82 ((5 * (dt 79 10)) + 4).toNat := hF157 82 (by decide) _
                            refine go_ret (k := 1) (r := some (.inl 1)) (w1 := (SH, dt155)) (fun _ => rfl) ?_
                            exact ⟨dt155, rfl, hI156, hF158, (Or.inr ⟨rfl, ⟨by first | trivial | omega, by exact BL166, by unfold aOK; omega, by first | trivial | omega, by first | trivial | omega, by exact (InvC_get (by assumption) 79 15 rfl rfl).2, by first | trivial | omega, by first | trivial | omega, by first | trivial | omega, by first | trivial | omega, by first | trivial | omega⟩⟩)⟩
                        · exfalso; omega
                    · skip
                      refine go_if (k := 3) (p1 := 176) (p2 := 171) (L' := [some (.inr (.inr (some 79))), some (.inl ((dt 79 14) - 20))]) (st' := []) (w' := (SH, dt126)) (fun _ => rfl) (c_eq (a := (dt 79 14) - 20) (b := 4) ⟨by omega, by omega⟩ ⟨by omega, by omega⟩) (fun c172 => ?_) (fun c172 => ?_)
                      · exfalso; omega
                      · skip
                        refine go_if (k := 3) (p1 := 187) (p2 := 176) (L' := [some (.inr (.inr (some 79))), some (.inl ((dt 79 14) - 20))]) (st' := []) (w' := (SH, dt126)) (fun _ => rfl) (c_ne (a := (dt 79 14) - 20) (b := 5) ⟨by omega, by omega⟩ ⟨by omega, by omega⟩) (fun c173 => ?_) (fun c173 => ?_)
                        · skip
                          refine go_if (k := 3) (p1 := 204) (p2 := 193) (L' := [some (.inr (.inr (some 79))), some (.inl ((dt 79 14) - 20))]) (st' := []) (w' := (SH, dt126)) (fun _ => rfl) (c_ne (a := (dt 79 14) - 20) (b := 6) ⟨by omega, by omega⟩ ⟨by omega, by omega⟩) (fun c174 => ?_) (fun c174 => ?_)
                          · skip
                            refine go_to (k := 2) (pc' := 208) (L' := [some (.inr (.inr (some 79))), some (.inl ((dt 79 14) - 20))]) (st' := [.inl 159, .inr (.inr (some 79))]) (w' := (SH, dt126)) (fun _ => rfl) ?_
                            refine go_call (Q' := _) rfl rfl rfl rfl rfl (sp_X6_need0 L xs sio (d + 1) dt126 hI127  159 ⟨by omega, by omega⟩ (by first | trivial | omega)) ?_
                            rintro _ _ ⟨dt176, rfl, hI177, hF178, h175⟩
                            refine ⟨rfl, ?_⟩
                            have hF179 : Fr [79, 82] dt dt176 := Fr_tr hF129 hF178 (by decide)
                            have E84180 : dt176 84 = dt 84 := (funext (hF178 84 (by decide))).trans E84130
                            rcases h175 with ⟨rfl, h175⟩ | ⟨rfl, h175⟩
                            · skip
                              obtain ⟨h175_0, h175_1, h175_2, h175_3⟩ := h175
                              have BL181 : ∀ j : Nat, (j : Int) < 5 * dt 79 10 → dt176 82 j = dt 82 j := fun j hj => (hF178 82 (by decide) j).trans (BL131 j hj)
                              have y182 : dt176 82 ((5 * (dt 79 10))).toNat = dt126 82 ((5 * (dt 79 10))).toNat := hF178 82 (by decide) _
                              have y183 : dt176 82 ((5 * (dt 79 10)) + 1).toNat = dt126 82 ((5 * (dt 79 10)) + 1).toNat := hF178 82 (by decide) _
                              have y184 : dt176 82 ((5 * (dt 79 10)) + 2).toNat = dt126 82 ((5 * (dt 79 10)) + 2).toNat := hF178 82 (by decide) _
                              have y185 : dt176 82 ((5 * (dt 79 10)) + 3).toNat = dt126 82 ((5 * (dt 79 10)) + 3).toNat := hF178 82 (by decide) _
                              have y186 : dt176 82 ((5 * (dt 79 10)) + 4).toNat = dt126 82 ((5 * (dt 79 10)) + 4).toNat := hF178 82 (by decide) _
                              refine go_ret (k := 1) (r := some (.inl 0)) (w1 := (SH, dt176)) (fun _ => rfl) ?_
                              exact ⟨dt176, rfl, hI177, hF179, (Or.inl ⟨rfl, ⟨by first | trivial | omega, by first | trivial | omega, by first | trivial | omega⟩⟩)⟩
                            · skip
                              obtain ⟨h175_0, h175_1, h175_2, h175_3, h175_4, h175_5, h175_6, h175_7, h175_8⟩ := h175
                              have BL187 : ∀ j : Nat, (j : Int) < 5 * dt 79 10 → dt176 82 j = dt 82 j := fun j hj => (hF178 82 (by decide) j).trans (BL131 j hj)
                              have y188 : dt176 82 ((5 * (dt 79 10))).toNat = dt126 82 ((5 * (dt 79 10))).toNat := hF178 82 (by decide) _
                              have y189 : dt176 82 ((5 * (dt 79 10)) + 1).toNat = dt126 82 ((5 * (dt 79 10)) + 1).toNat := hF178 82 (by decide) _
                              have y190 : dt176 82 ((5 * (dt 79 10)) + 2).toNat = dt126 82 ((5 * (dt 79 10)) + 2).toNat := hF178 82 (by decide) _
                              have y191 : dt176 82 ((5 * (dt 79 10)) + 3).toNat = dt126 82 ((5 * (dt 79 10)) + 3).toNat := hF178 82 (by decide) _
                              have y192 : dt176 82 ((5 * (dt 79 10)) + 4).toNat = dt126 82 ((5 * (dt 79 10)) + 4).toNat := hF178 82 (by decide) _
                              refine go_ret (k := 1) (r := some (.inl 1)) (w1 := (SH, dt176)) (fun _ => rfl) ?_
                              exact ⟨dt176, rfl, hI177, hF179, (Or.inr ⟨rfl, ⟨by first | trivial | omega, by exact BL187, by unfold aOK; omega, by first | trivial | omega, by first | trivial | omega, by exact (InvC_get (by assumption) 79 15 rfl rfl).2, by first | trivial | omega, by first | trivial | omega, by first | trivial | omega, by first | trivial | omega, by first | trivial | omega⟩⟩)⟩
                          · exfalso; omega
                        · exfalso; omega
              · skip
                refine go_if (k := 3) (p1 := 156) (p2 := 145) (L' := [some (.inr (.inr (some 79))), some (.inl ((dt 79 14) - 20))]) (st' := []) (w' := (SH, dt42)) (fun _ => rfl) (c_ne (a := (dt 79 14) - 20) (b := 4) ⟨by omega, by omega⟩ ⟨by omega, by omega⟩) (fun c193 => ?_) (fun c193 => ?_)
                · skip
                  refine go_if (k := 3) (p1 := 176) (p2 := 161) (L' := [some (.inr (.inr (some 79))), some (.inl ((dt 79 14) - 20))]) (st' := []) (w' := (SH, dt42)) (fun _ => rfl) (c_eq (a := (dt 79 14) - 20) (b := 2) ⟨by omega, by omega⟩ ⟨by omega, by omega⟩) (fun c194 => ?_) (fun c194 => ?_)
                  · skip
                    refine go_to (k := 3) (pc' := 179) (L' := [some (.inr (.inr (some 79))), some (.inl ((dt 79 14) - 20))]) (st' := [.inl 3, .inl 3, .inr (.inr (some 79))]) (w' := (SH, dt42)) (fun _ => rfl) ?_
                    refine go_call (Q' := _) rfl rfl rfl rfl rfl (sp_X6_argument L xs sio (d + 0) dt42 hI43  3 ⟨by omega, by omega⟩ 3 ⟨by omega, by omega⟩ (by first | trivial | omega) (by first | trivial | omega)) ?_
                    rintro _ _ ⟨dt196, rfl, hI197, hF198, h195⟩
                    refine ⟨rfl, ?_⟩
                    have hF199 : Fr [79, 82] dt dt196 := Fr_tr hF45 hF198 (by decide)
                    have E84200 : dt196 84 = dt 84 := (funext (hF198 84 (by decide))).trans E8446
                    rcases h195 with ⟨rfl, h195⟩ | ⟨rfl, h195⟩
                    · skip
                      obtain ⟨h195_0, h195_1, h195_2, h195_3⟩ := h195
                      refine go_ret (k := 3) (r := some (.inl 0)) (w1 := (SH, dt196)) (fun _ => rfl) ?_
                      exact ⟨dt196, rfl, hI197, hF199, (Or.inl ⟨rfl, ⟨by first | trivial | omega, by first | trivial | omega, by first | trivial | omega⟩⟩)⟩
                    · skip
                      obtain ⟨h195_0, h195_1, h195_2, h195_3, h195_4, h195_5, h195_6, h195_7, h195_8, h195_9, h195_10⟩ := h195
                      have BL201 : ∀ j : Nat, (j : Int) < 5 * dt 79 10 → dt196 82 j = dt 82 j := fun j hj => (h195_0 j (by omega)).trans (BL47 j hj)
                      have y202 := h195_0 ((5 * (dt 79 10))).toNat
                      have y203 := h195_0 ((5 * (dt 79 10)) + 1).toNat
                      have y204 := h195_0 ((5 * (dt 79 10)) + 2).toNat
                      have y205 := h195_0 ((5 * (dt 79 10)) + 3).toNat
                      have y206 := h195_0 ((5 * (dt 79 10)) + 4).toNat
                      have y207 := h195_1 ((5 * (dt 79 10)) + 3) (by omega)
                      refine go_if (k := 4) (p1 := 204) (p2 := 193) (L' := [some (.inr (.inr (some 79))), some (.inl ((dt 79 14) - 20))]) (st' := []) (w' := (SH, dt196)) (fun _ => rfl) (c_ne (a := (dt 79 14) - 20) (b := 6) ⟨by omega, by omega⟩ ⟨by omega, by omega⟩) (fun c208 => ?_) (fun c208 => ?_)
                      · skip
                        refine go_to (k := 2) (pc' := 208) (L' := [some (.inr (.inr (some 79))), some (.inl ((dt 79 14) - 20))]) (st' := [.inl 159, .inr (.inr (some 79))]) (w' := (SH, dt196)) (fun _ => rfl) ?_
                        refine go_call (Q' := _) rfl rfl rfl rfl rfl (sp_X6_need0 L xs sio (d + 1) dt196 hI197  159 ⟨by omega, by omega⟩ (by first | trivial | omega)) ?_
                        rintro _ _ ⟨dt210, rfl, hI211, hF212, h209⟩
                        refine ⟨rfl, ?_⟩
                        have hF213 : Fr [79, 82] dt dt210 := Fr_tr hF199 hF212 (by decide)
                        have E84214 : dt210 84 = dt 84 := (funext (hF212 84 (by decide))).trans E84200
                        rcases h209 with ⟨rfl, h209⟩ | ⟨rfl, h209⟩
                        · skip
                          obtain ⟨h209_0, h209_1, h209_2, h209_3⟩ := h209
                          have BL215 : ∀ j : Nat, (j : Int) < 5 * dt 79 10 → dt210 82 j = dt 82 j := fun j hj => (hF212 82 (by decide) j).trans (BL201 j hj)
                          have y216 : dt210 82 ((5 * (dt 79 10))).toNat = dt196 82 ((5 * (dt 79 10))).toNat := hF212 82 (by decide) _
                          have y217 : dt210 82 ((5 * (dt 79 10)) + 1).toNat = dt196 82 ((5 * (dt 79 10)) + 1).toNat := hF212 82 (by decide) _
                          have y218 : dt210 82 ((5 * (dt 79 10)) + 2).toNat = dt196 82 ((5 * (dt 79 10)) + 2).toNat := hF212 82 (by decide) _
                          have y219 : dt210 82 ((5 * (dt 79 10)) + 3).toNat = dt196 82 ((5 * (dt 79 10)) + 3).toNat := hF212 82 (by decide) _
                          have y220 : dt210 82 ((5 * (dt 79 10)) + 4).toNat = dt196 82 ((5 * (dt 79 10)) + 4).toNat := hF212 82 (by decide) _
                          refine go_ret (k := 1) (r := some (.inl 0)) (w1 := (SH, dt210)) (fun _ => rfl) ?_
                          exact ⟨dt210, rfl, hI211, hF213, (Or.inl ⟨rfl, ⟨by first | trivial | omega, by first | trivial | omega, by first | trivial | omega⟩⟩)⟩
                        · skip
                          obtain ⟨h209_0, h209_1, h209_2, h209_3, h209_4, h209_5, h209_6, h209_7, h209_8⟩ := h209
                          have BL221 : ∀ j : Nat, (j : Int) < 5 * dt 79 10 → dt210 82 j = dt 82 j := fun j hj => (hF212 82 (by decide) j).trans (BL201 j hj)
                          have y222 : dt210 82 ((5 * (dt 79 10))).toNat = dt196 82 ((5 * (dt 79 10))).toNat := hF212 82 (by decide) _
                          have y223 : dt210 82 ((5 * (dt 79 10)) + 1).toNat = dt196 82 ((5 * (dt 79 10)) + 1).toNat := hF212 82 (by decide) _
                          have y224 : dt210 82 ((5 * (dt 79 10)) + 2).toNat = dt196 82 ((5 * (dt 79 10)) + 2).toNat := hF212 82 (by decide) _
                          have y225 : dt210 82 ((5 * (dt 79 10)) + 3).toNat = dt196 82 ((5 * (dt 79 10)) + 3).toNat := hF212 82 (by decide) _
                          have y226 : dt210 82 ((5 * (dt 79 10)) + 4).toNat = dt196 82 ((5 * (dt 79 10)) + 4).toNat := hF212 82 (by decide) _
                          refine go_ret (k := 1) (r := some (.inl 1)) (w1 := (SH, dt210)) (fun _ => rfl) ?_
                          exact ⟨dt210, rfl, hI211, hF213, (Or.inr ⟨rfl, ⟨by first | trivial | omega, by exact BL221, by unfold aOK; omega, by first | trivial | omega, by first | trivial | omega, by exact (InvC_get (by assumption) 79 15 rfl rfl).2, by first | trivial | omega, by first | trivial | omega, by first | trivial | omega, by first | trivial | omega, by first | trivial | omega⟩⟩)⟩
                      · exfalso; omega
                  · skip
                    refine go_if (k := 3) (p1 := 176) (p2 := 166) (L' := [some (.inr (.inr (some 79))), some (.inl ((dt 79 14) - 20))]) (st' := []) (w' := (SH, dt42)) (fun _ => rfl) (c_eq (a := (dt 79 14) - 20) (b := 3) ⟨by omega, by omega⟩ ⟨by omega, by omega⟩) (fun c227 => ?_) (fun c227 => ?_)
                    · skip
                      refine go_to (k := 3) (pc' := 179) (L' := [some (.inr (.inr (some 79))), some (.inl ((dt 79 14) - 20))]) (st' := [.inl 3, .inl 3, .inr (.inr (some 79))]) (w' := (SH, dt42)) (fun _ => rfl) ?_
                      refine go_call (Q' := _) rfl rfl rfl rfl rfl (sp_X6_argument L xs sio (d + 0) dt42 hI43  3 ⟨by omega, by omega⟩ 3 ⟨by omega, by omega⟩ (by first | trivial | omega) (by first | trivial | omega)) ?_
                      rintro _ _ ⟨dt229, rfl, hI230, hF231, h228⟩
                      refine ⟨rfl, ?_⟩
                      have hF232 : Fr [79, 82] dt dt229 := Fr_tr hF45 hF231 (by decide)
                      have E84233 : dt229 84 = dt 84 := (funext (hF231 84 (by decide))).trans E8446
                      rcases h228 with ⟨rfl, h228⟩ | ⟨rfl, h228⟩
                      · skip
                        obtain ⟨h228_0, h228_1, h228_2, h228_3⟩ := h228
                        refine go_ret (k := 3) (r := some (.inl 0)) (w1 := (SH, dt229)) (fun _ => rfl) ?_
                        exact ⟨dt229, rfl, hI230, hF232, (Or.inl ⟨rfl, ⟨by first | trivial | omega, by first | trivial | omega, by first | trivial | omega⟩⟩)⟩
                      · skip
                        obtain ⟨h228_0, h228_1, h228_2, h228_3, h228_4, h228_5, h228_6, h228_7, h228_8, h228_9, h228_10⟩ := h228
                        have BL234 : ∀ j : Nat, (j : Int) < 5 * dt 79 10 → dt229 82 j = dt 82 j := fun j hj => (h228_0 j (by omega)).trans (BL47 j hj)
                        have y235 := h228_0 ((5 * (dt 79 10))).toNat
                        have y236 := h228_0 ((5 * (dt 79 10)) + 1).toNat
                        have y237 := h228_0 ((5 * (dt 79 10)) + 2).toNat
                        have y238 := h228_0 ((5 * (dt 79 10)) + 3).toNat
                        have y239 := h228_0 ((5 * (dt 79 10)) + 4).toNat
                        have y240 := h228_1 ((5 * (dt 79 10)) + 3) (by omega)
                        refine go_if (k := 4) (p1 := 204) (p2 := 193) (L' := [some (.inr (.inr (some 79))), some (.inl ((dt 79 14) - 20))]) (st' := []) (w' := (SH, dt229)) (fun _ => rfl) (c_ne (a := (dt 79 14) - 20) (b := 6) ⟨by omega, by omega⟩ ⟨by omega, by omega⟩) (fun c241 => ?_) (fun c241 => ?_)
                        · skip
                          refine go_to (k := 2) (pc' := 208) (L' := [some (.inr (.inr (some 79))), some (.inl ((dt 79 14) - 20))]) (st' := [.inl 159, .inr (.inr (some 79))]) (w' := (SH, dt229)) (fun _ => rfl) ?_
                          refine go_call (Q' := _) rfl rfl rfl rfl rfl (sp_X6_need0 L xs sio (d + 1) dt229 hI230  159 ⟨by omega, by omega⟩ (by first | trivial | omega)) ?_
                          rintro _ _ ⟨dt243, rfl, hI244, hF245, h242⟩
                          refine ⟨rfl, ?_⟩
                          have hF246 : Fr [79, 82] dt dt243 := Fr_tr hF232 hF245 (by decide)
                          have E84247 : dt243 84 = dt 84 := (funext (hF245 84 (by decide))).trans E84233
                          rcases h242 with ⟨rfl, h242⟩ | ⟨rfl, h242⟩
                          · skip
                            obtain ⟨h242_0, h242_1, h242_2, h242_3⟩ := h242
                            have BL248 : ∀ j : Nat, (j : Int) < 5 * dt 79 10 → dt243 82 j = dt 82 j := fun j hj => (hF245 82 (by decide) j).trans (BL234 j hj)
                            have y249 : dt243 82 ((5 * (dt 79 10))).toNat = dt229 82 ((5 * (dt 79 10))).toNat := hF245 82 (by decide) _
                            have y250 : dt243 82 ((5 * (dt 79 10)) + 1).toNat = dt229 82 ((5 * (dt 79 10)) + 1).toNat := hF245 82 (by decide) _
                            have y251 : dt243 82 ((5 * (dt 79 10)) + 2).toNat = dt229 82 ((5 * (dt 79 10)) + 2).toNat := hF245 82 (by decide) _
                            have y252 : dt243 82 ((5 * (dt 79 10)) + 3).toNat = dt229 82 ((5 * (dt 79 10)) + 3).toNat := hF245 82 (by decide) _
                            have y253 : dt243 82 ((5 * (dt 79 10)) + 4).toNat = dt229 82 ((5 * (dt 79 10)) + 4).toNat := hF245 82 (by decide) _
                            refine go_ret (k := 1) (r := some (.inl 0)) (w1 := (SH, dt243)) (fun _ => rfl) ?_
                            exact ⟨dt243, rfl, hI244, hF246, (Or.inl ⟨rfl, ⟨by first | trivial | omega, by first | trivial | omega, by first | trivial | omega⟩⟩)⟩
                          · skip
                            obtain ⟨h242_0, h242_1, h242_2, h242_3, h242_4, h242_5, h242_6, h242_7, h242_8⟩ := h242
                            have BL254 : ∀ j : Nat, (j : Int) < 5 * dt 79 10 → dt243 82 j = dt 82 j := fun j hj => (hF245 82 (by decide) j).trans (BL234 j hj)
                            have y255 : dt243 82 ((5 * (dt 79 10))).toNat = dt229 82 ((5 * (dt 79 10))).toNat := hF245 82 (by decide) _
                            have y256 : dt243 82 ((5 * (dt 79 10)) + 1).toNat = dt229 82 ((5 * (dt 79 10)) + 1).toNat := hF245 82 (by decide) _
                            have y257 : dt243 82 ((5 * (dt 79 10)) + 2).toNat = dt229 82 ((5 * (dt 79 10)) + 2).toNat := hF245 82 (by decide) _
                            have y258 : dt243 82 ((5 * (dt 79 10)) + 3).toNat = dt229 82 ((5 * (dt 79 10)) + 3).toNat := hF245 82 (by decide) _
                            have y259 : dt243 82 ((5 * (dt 79 10)) + 4).toNat = dt229 82 ((5 * (dt 79 10)) + 4).toNat := hF245 82 (by decide) _
                            refine go_ret (k := 1) (r := some (.inl 1)) (w1 := (SH, dt243)) (fun _ => rfl) ?_
                            exact ⟨dt243, rfl, hI244, hF246, (Or.inr ⟨rfl, ⟨by first | trivial | omega, by exact BL254, by unfold aOK; omega, by first | trivial | omega, by first | trivial | omega, by exact (InvC_get (by assumption) 79 15 rfl rfl).2, by first | trivial | omega, by first | trivial | omega, by first | trivial | omega, by first | trivial | omega, by first | trivial | omega⟩⟩)⟩
                        · exfalso; omega
                    · skip
                      refine go_if (k := 3) (p1 := 176) (p2 := 171) (L' := [some (.inr (.inr (some 79))), some (.inl ((dt 79 14) - 20))]) (st' := []) (w' := (SH, dt42)) (fun _ => rfl) (c_eq (a := (dt 79 14) - 20) (b := 4) ⟨by omega, by omega⟩ ⟨by omega, by omega⟩) (fun c260 => ?_) (fun c260 => ?_)
                      · skip
                        refine go_to (k := 3) (pc' := 179) (L' := [some (.inr (.inr (some 79))), some (.inl ((dt 79 14) - 20))]) (st' := [.inl 3, .inl 3, .inr (.inr (some 79))]) (w' := (SH, dt42)) (fun _ => rfl) ?_
                        refine go_call (Q' := _) rfl rfl rfl rfl rfl (sp_X6_argument L xs sio (d + 0) dt42 hI43  3 ⟨by omega, by omega⟩ 3 ⟨by omega, by omega⟩ (by first | trivial | omega) (by first | trivial | omega)) ?_
                        rintro _ _ ⟨dt262, rfl, hI263, hF264, h261⟩
                        refine ⟨rfl, ?_⟩
                        have hF265 : Fr [79, 82] dt dt262 := Fr_tr hF45 hF264 (by decide)
                        have E84266 : dt262 84 = dt 84 := (funext (hF264 84 (by decide))).trans E8446
                        rcases h261 with ⟨rfl, h261⟩ | ⟨rfl, h261⟩
                        · skip
                          obtain ⟨h261_0, h261_1, h261_2, h261_3⟩ := h261
                          refine go_ret (k := 3) (r := some (.inl 0)) (w1 := (SH, dt262)) (fun _ => rfl) ?_
                          exact ⟨dt262, rfl, hI263, hF265, (Or.inl ⟨rfl, ⟨by first | trivial | omega, by first | trivial | omega, by first | trivial | omega⟩⟩)⟩
                        · skip
                          obtain ⟨h261_0, h261_1, h261_2, h261_3, h261_4, h261_5, h261_6, h261_7, h261_8, h261_9, h261_10⟩ := h261
                          have BL267 : ∀ j : Nat, (j : Int) < 5 * dt 79 10 → dt262 82 j = dt 82 j := fun j hj => (h261_0 j (by omega)).trans (BL47 j hj)
                          have y268 := h261_0 ((5 * (dt 79 10))).toNat
                          have y269 := h261_0 ((5 * (dt 79 10)) + 1).toNat
                          have y270 := h261_0 ((5 * (dt 79 10)) + 2).toNat
                          have y271 := h261_0 ((5 * (dt 79 10)) + 3).toNat
                          have y272 := h261_0 ((5 * (dt 79 10)) + 4).toNat
                          have y273 := h261_1 ((5 * (dt 79 10)) + 3) (by omega)
                          refine go_if (k := 4) (p1 := 204) (p2 := 193) (L' := [some (.inr (.inr (some 79))), some (.inl ((dt 79 14) - 20))]) (st' := []) (w' := (SH, dt262)) (fun _ => rfl) (c_ne (a := (dt 79 14) - 20) (b := 6) ⟨by omega, by omega⟩ ⟨by omega, by omega⟩) (fun c274 => ?_) (fun c274 => ?_)
                          · skip
                            refine go_to (k := 2) (pc' := 208) (L' := [some (.inr (.inr (some 79))), some (.inl ((dt 79 14) - 20))]) (st' := [.inl 159, .inr (.inr (some 79))]) (w' := (SH, dt262)) (fun _ => rfl) ?_
                            refine go_call (Q' := _) rfl rfl rfl rfl rfl (sp_X6_need0 L xs sio (d + 1) dt262 hI263  159 ⟨by omega, by omega⟩ (by first | trivial | omega)) ?_
                            rintro _ _ ⟨dt276, rfl, hI277, hF278, h275⟩
                            refine ⟨rfl, ?_⟩
                            have hF279 : Fr [79, 82] dt dt276 := Fr_tr hF265 hF278 (by decide)
                            have E84280 : dt276 84 = dt 84 := (funext (hF278 84 (by decide))).trans E84266
                            rcases h275 with ⟨rfl, h275⟩ | ⟨rfl, h275⟩
                            · skip
                              obtain ⟨h275_0, h275_1, h275_2, h275_3⟩ := h275
                              have BL281 : ∀ j : Nat, (j : Int) < 5 * dt 79 10 → dt276 82 j = dt 82 j := fun j hj => (hF278 82 (by decide) j).trans (BL267 j hj)
                              have y282 : dt276 82 ((5 * (dt 79 10))).toNat = dt262 82 ((5 * (dt 79 10))).toNat := hF278 82 (by decide) _
                              have y283 : dt276 82 ((5 * (dt 79 10)) + 1).toNat = dt262 82 ((5 * (dt 79 10)) + 1).toNat := hF278 82 (by decide) _
                              have y284 : dt276 82 ((5 * (dt 79 10)) + 2).toNat = dt262 82 ((5 * (dt 79 10)) + 2).toNat := hF278 82 (by decide) _
                              have y285 : dt276 82 ((5 * (dt 79 10)) + 3).toNat = dt262 82 ((5 * (dt 79 10)) + 3).toNat := hF278 82 (by decide) _
                              have y286 : dt276 82 ((5 * (dt 79 10)) + 4).toNat = dt262 82 ((5 * (dt 79 10)) + 4).toNat := hF278 82 (by decide) _
                              refine go_ret (k := 1) (r := some (.inl 0)) (w1 := (SH, dt276)) (fun _ => rfl) ?_
                              exact ⟨dt276, rfl, hI277, hF279, (Or.inl ⟨rfl, ⟨by first | trivial | omega, by first | trivial | omega, by first | trivial | omega⟩⟩)⟩
                            · skip
                              obtain ⟨h275_0, h275_1, h275_2, h275_3, h275_4, h275_5, h275_6, h275_7, h275_8⟩ := h275
                              have BL287 : ∀ j : Nat, (j : Int) < 5 * dt 79 10 → dt276 82 j = dt 82 j := fun j hj => (hF278 82 (by decide) j).trans (BL267 j hj)
                              have y288 : dt276 82 ((5 * (dt 79 10))).toNat = dt262 82 ((5 * (dt 79 10))).toNat := hF278 82 (by decide) _
                              have y289 : dt276 82 ((5 * (dt 79 10)) + 1).toNat = dt262 82 ((5 * (dt 79 10)) + 1).toNat := hF278 82 (by decide) _
                              have y290 : dt276 82 ((5 * (dt 79 10)) + 2).toNat = dt262 82 ((5 * (dt 79 10)) + 2).toNat := hF278 82 (by decide) _
                              have y291 : dt276 82 ((5 * (dt 79 10)) + 3).toNat = dt262 82 ((5 * (dt 79 10)) + 3).toNat := hF278 82 (by decide) _
                              have y292 : dt276 82 ((5 * (dt 79 10)) + 4).toNat = dt262 82 ((5 * (dt 79 10)) + 4).toNat := hF278 82 (by decide) _
                              refine go_ret (k := 1) (r := some (.inl 1)) (w1 := (SH, dt276)) (fun _ => rfl) ?_
                              exact ⟨dt276, rfl, hI277, hF279, (Or.inr ⟨rfl, ⟨by first | trivial | omega, by exact BL287, by unfold aOK; omega, by first | trivial | omega, by first | trivial | omega, by exact (InvC_get (by assumption) 79 15 rfl rfl).2, by first | trivial | omega, by first | trivial | omega, by first | trivial | omega, by first | trivial | omega, by first | trivial | omega⟩⟩)⟩
                          · exfalso; omega
                      · skip
                        refine go_if (k := 3) (p1 := 187) (p2 := 176) (L' := [some (.inr (.inr (some 79))), some (.inl ((dt 79 14) - 20))]) (st' := []) (w' := (SH, dt42)) (fun _ => rfl) (c_ne (a := (dt 79 14) - 20) (b := 5) ⟨by omega, by omega⟩ ⟨by omega, by omega⟩) (fun c293 => ?_) (fun c293 => ?_)
                        · skip
                          refine go_if (k := 3) (p1 := 204) (p2 := 193) (L' := [some (.inr (.inr (some 79))), some (.inl ((dt 79 14) - 20))]) (st' := []) (w' := (SH, dt42)) (fun _ => rfl) (c_ne (a := (dt 79 14) - 20) (b := 6) ⟨by omega, by omega⟩ ⟨by omega, by omega⟩) (fun c294 => ?_) (fun c294 => ?_)
                          · skip
                            refine go_to (k := 2) (pc' := 208) (L' := [some (.inr (.inr (some 79))), some (.inl ((dt 79 14) - 20))]) (st' := [.inl 159, .inr (.inr (some 79))]) (w' := (SH, dt42)) (fun _ => rfl) ?_
                            refine go_call (Q' := _) rfl rfl rfl rfl rfl (sp_X6_need0 L xs sio (d + 1) dt42 hI43  159 ⟨by omega, by omega⟩ (by first | trivial | omega)) ?_
                            rintro _ _ ⟨dt296, rfl, hI297, hF298, h295⟩
                            refine ⟨rfl, ?_⟩
                            have hF299 : Fr [79, 82] dt dt296 := Fr_tr hF45 hF298 (by decide)
                            have E84300 : dt296 84 = dt 84 := (funext (hF298 84 (by decide))).trans E8446
                            rcases h295 with ⟨rfl, h295⟩ | ⟨rfl, h295⟩
                            · skip
                              obtain ⟨h295_0, h295_1, h295_2, h295_3⟩ := h295
                              have BL301 : ∀ j : Nat, (j : Int) < 5 * dt 79 10 → dt296 82 j = dt 82 j := fun j hj => (hF298 82 (by decide) j).trans (BL47 j hj)
                              have y302 : dt296 82 ((5 * (dt 79 10))).toNat = dt42 82 ((5 * (dt 79 10))).toNat := hF298 82 (by decide) _
                              have y303 : dt296 82 ((5 * (dt 79 10)) + 1).toNat = dt42 82 ((5 * (dt 79 10)) + 1).toNat := hF298 82 (by decide) _
                              have y304 : dt296 82 ((5 * (dt 79 10)) + 2).toNat = dt42 82 ((5 * (dt 79 10)) + 2).toNat := hF298 82 (by decide) _
                              have y305 : dt296 82 ((5 * (dt 79 10)) + 3).toNat = dt42 82 ((5 * (dt 79 10)) + 3).toNat := hF298 82 (by decide) _
                              have y306 : dt296 82 ((5 * (dt 79 10)) + 4).toNat = dt42 82 ((5 * (dt 79 10)) + 4).toNat := hF298 82 (by decide) _
                              refine go_ret (k := 1) (r := some (.inl 0)) (w1 := (SH, dt296)) (fun _ => rfl) ?_
                              exact ⟨dt296, rfl, hI297, hF299, (Or.inl ⟨rfl, ⟨by first | trivial | omega, by first | trivial | omega, by first | trivial | omega⟩⟩)⟩
                            · skip
                              obtain ⟨h295_0, h295_1, h295_2, h295_3, h295_4, h295_5, h295_6, h295_7, h295_8⟩ := h295
                              have BL307 : ∀ j : Nat, (j : Int) < 5 * dt 79 10 → dt296 82 j = dt 82 j := fun j hj => (hF298 82 (by decide) j).trans (BL47 j hj)
                              have y308 : dt296 82 ((5 * (dt 79 10))).toNat = dt42 82 ((5 * (dt 79 10))).toNat := hF298 82 (by decide) _
                              have y309 : dt296 82 ((5 * (dt 79 10)) + 1).toNat = dt42 82 ((5 * (dt 79 10)) + 1).toNat := hF298 82 (by decide) _
                              have y310 : dt296 82 ((5 * (dt 79 10)) + 2).toNat = dt42 82 ((5 * (dt 79 10)) + 2).toNat := hF298 82 (by decide) _
                              have y311 : dt296 82 ((5 * (dt 79 10)) + 3).toNat = dt42 82 ((5 * (dt 79 10)) + 3).toNat := hF298 82 (by decide) _
                              have y312 : dt296 82 ((5 * (dt 79 10)) + 4).toNat = dt42 82 ((5 * (dt 79 10)) + 4).toNat := hF298 82 (by decide) _
                              refine go_ret (k := 1) (r := some (.inl 1)) (w1 := (SH, dt296)) (fun _ => rfl) ?_
                              exact ⟨dt296, rfl, hI297, hF299, (Or.inr ⟨rfl, ⟨by first | trivial | omega, by exact BL307, by unfold aOK; omega, by first | trivial | omega, by first | trivial | omega, by exact (InvC_get (by assumption) 79 15 rfl rfl).2, by first | trivial | omega, by first | trivial | omega, by first | trivial | omega, by first | trivial | omega, by first | trivial | omega⟩⟩)⟩
                          · skip
                            refine go_to (k := 3) (pc' := 196) (L' := [some (.inr (.inr (some 79))), some (.inl ((dt 79 14) - 20))]) (st' := [.inl 1, .inl 3, .inr (.inr (some 79))]) (w' := (SH, dt42)) (fun _ => rfl) ?_
                            refine go_call (Q' := _) rfl rfl rfl rfl rfl (sp_X6_argument L xs sio (d + 0) dt42 hI43  3 ⟨by omega, by omega⟩ 1 ⟨by omega, by omega⟩ (by first | trivial | omega) (by first | trivial | omega)) ?_
                            rintro _ _ ⟨dt314, rfl, hI315, hF316, h313⟩
                            refine ⟨rfl, ?_⟩
                            have hF317 : Fr [79, 82] dt dt314 := Fr_tr hF45 hF316 (by decide)
                            have E84318 : dt314 84 = dt 84 := (funext (hF316 84 (by decide))).trans E8446
                            rcases h313 with ⟨rfl, h313⟩ | ⟨rfl, h313⟩
                            · skip
                              obtain ⟨h313_0, h313_1, h313_2, h313_3⟩ := h313
                              refine go_ret (k := 3) (r := some (.inl 0)) (w1 := (SH, dt314)) (fun _ => rfl) ?_
                              exact ⟨dt314, rfl, hI315, hF317, (Or.inl ⟨rfl, ⟨by first | trivial | omega, by first | trivial | omega, by first | trivial | omega⟩⟩)⟩
                            · skip
                              obtain ⟨h313_0, h313_1, h313_2, h313_3, h313_4, h313_5, h313_6, h313_7, h313_8, h313_9, h313_10⟩ := h313
                              have BL319 : ∀ j : Nat, (j : Int) < 5 * dt 79 10 → dt314 82 j = dt 82 j := fun j hj => (h313_0 j (by omega)).trans (BL47 j hj)
                              have y320 := h313_0 ((5 * (dt 79 10))).toNat
                              have y321 := h313_0 ((5 * (dt 79 10)) + 1).toNat
                              have y322 := h313_0 ((5 * (dt 79 10)) + 2).toNat
                              have y323 := h313_0 ((5 * (dt 79 10)) + 3).toNat
                              have y324 := h313_0 ((5 * (dt 79 10)) + 4).toNat
                              have y325 := h313_1 ((5 * (dt 79 10)) + 3) (by omega)
                              refine go_to (k := 3) (pc' := 208) (L' := [some (.inr (.inr (some 79))), some (.inl ((dt 79 14) - 20))]) (st' := [.inl 159, .inr (.inr (some 79))]) (w' := (SH, dt314)) (fun _ => rfl) ?_
                              refine go_call (Q' := _) rfl rfl rfl rfl rfl (sp_X6_need0 L xs sio (d + 1) dt314 hI315  159 ⟨by omega, by omega⟩ (by first | trivial | omega)) ?_
                              rintro _ _ ⟨dt327, rfl, hI328, hF329, h326⟩
                              refine ⟨rfl, ?_⟩
                              have hF330 : Fr [79, 82] dt dt327 := Fr_tr hF317 hF329 (by decide)
                              have E84331 : dt327 84 = dt 84 := (funext (hF329 84 (by decide))).trans E84318
                              rcases h326 with ⟨rfl, h326⟩ | ⟨rfl, h326⟩
                              · skip
                                obtain ⟨h326_0, h326_1, h326_2, h326_3⟩ := h326
                                have BL332 : ∀ j : Nat, (j : Int) < 5 * dt 79 10 → dt327 82 j = dt 82 j := fun j hj => (hF329 82 (by decide) j).trans (BL319 j hj)
                                have y333 : dt327 82 ((5 * (dt 79 10))).toNat = dt314 82 ((5 * (dt 79 10))).toNat := hF329 82 (by decide) _
                                have y334 : dt327 82 ((5 * (dt 79 10)) + 1).toNat = dt314 82 ((5 * (dt 79 10)) + 1).toNat := hF329 82 (by decide) _
                                have y335 : dt327 82 ((5 * (dt 79 10)) + 2).toNat = dt314 82 ((5 * (dt 79 10)) + 2).toNat := hF329 82 (by decide) _
                                have y336 : dt327 82 ((5 * (dt 79 10)) + 3).toNat = dt314 82 ((5 * (dt 79 10)) + 3).toNat := hF329 82 (by decide) _
                                have y337 : dt327 82 ((5 * (dt 79 10)) + 4).toNat = dt314 82 ((5 * (dt 79 10)) + 4).toNat := hF329 82 (by decide) _
                                refine go_ret (k := 1) (r := some (.inl 0)) (w1 := (SH, dt327)) (fun _ => rfl) ?_
                                exact ⟨dt327, rfl, hI328, hF330, (Or.inl ⟨rfl, ⟨by first | trivial | omega, by first | trivial | omega, by first | trivial | omega⟩⟩)⟩
                              · skip
                                obtain ⟨h326_0, h326_1, h326_2, h326_3, h326_4, h326_5, h326_6, h326_7, h326_8⟩ := h326
                                have BL338 : ∀ j : Nat, (j : Int) < 5 * dt 79 10 → dt327 82 j = dt 82 j := fun j hj => (hF329 82 (by decide) j).trans (BL319 j hj)
                                have y339 : dt327 82 ((5 * (dt 79 10))).toNat = dt314 82 ((5 * (dt 79 10))).toNat := hF329 82 (by decide) _
                                have y340 : dt327 82 ((5 * (dt 79 10)) + 1).toNat = dt314 82 ((5 * (dt 79 10)) + 1).toNat := hF329 82 (by decide) _
                                have y341 : dt327 82 ((5 * (dt 79 10)) + 2).toNat = dt314 82 ((5 * (dt 79 10)) + 2).toNat := hF329 82 (by decide) _
                                have y342 : dt327 82 ((5 * (dt 79 10)) + 3).toNat = dt314 82 ((5 * (dt 79 10)) + 3).toNat := hF329 82 (by decide) _
                                have y343 : dt327 82 ((5 * (dt 79 10)) + 4).toNat = dt314 82 ((5 * (dt 79 10)) + 4).toNat := hF329 82 (by decide) _
                                refine go_ret (k := 1) (r := some (.inl 1)) (w1 := (SH, dt327)) (fun _ => rfl) ?_
                                exact ⟨dt327, rfl, hI328, hF330, (Or.inr ⟨rfl, ⟨by first | trivial | omega, by exact BL338, by unfold aOK; omega, by first | trivial | omega, by first | trivial | omega, by exact (InvC_get (by assumption) 79 15 rfl rfl).2, by first | trivial | omega, by first | trivial | omega, by first | trivial | omega, by first | trivial | omega, by first | trivial | omega⟩⟩)⟩
                        · skip
                          refine go_to (k := 3) (pc' := 179) (L' := [some (.inr (.inr (some 79))), some (.inl ((dt 79 14) - 20))]) (st' := [.inl 3, .inl 3, .inr (.inr (some 79))]) (w' := (SH, dt42)) (fun _ => rfl) ?_
                          refine go_call (Q' := _) rfl rfl rfl rfl rfl (sp_X6_argument L xs sio (d + 0) dt42 hI43  3 ⟨by omega, by omega⟩ 3 ⟨by omega, by omega⟩ (by first | trivial | omega) (by first | trivial | omega)) ?_
                          rintro _ _ ⟨dt345, rfl, hI346, hF347, h344⟩
                          refine ⟨rfl, ?_⟩
                          have hF348 : Fr [79, 82] dt dt345 := Fr_tr hF45 hF347 (by decide)
                          have E84349 : dt345 84 = dt 84 := (funext (hF347 84 (by decide))).trans E8446
                          rcases h344 with ⟨rfl, h344⟩ | ⟨rfl, h344⟩
                          · skip
                            obtain ⟨h344_0, h344_1, h344_2, h344_3⟩ := h344
                            refine go_ret (k := 3) (r := some (.inl 0)) (w1 := (SH, dt345)) (fun _ => rfl) ?_
                            exact ⟨dt345, rfl, hI346, hF348, (Or.inl ⟨rfl, ⟨by first | trivial | omega, by first | trivial | omega, by first | trivial | omega⟩⟩)⟩
                          · skip
                            obtain ⟨h344_0, h344_1, h344_2, h344_3, h344_4, h344_5, h344_6, h344_7, h344_8, h344_9, h344_10⟩ := h344
                            have BL350 : ∀ j : Nat, (j : Int) < 5 * dt 79 10 → dt345 82 j = dt 82 j := fun j hj => (h344_0 j (by omega)).trans (BL47 j hj)
                            have y351 := h344_0 ((5 * (dt 79 10))).toNat
                            have y352 := h344_0 ((5 * (dt 79 10)) + 1).toNat
                            have y353 := h344_0 ((5 * (dt 79 10)) + 2).toNat
                            have y354 := h344_0 ((5 * (dt 79 10)) + 3).toNat
                            have y355 := h344_0 ((5 * (dt 79 10)) + 4).toNat
                            have y356 := h344_1 ((5 * (dt 79 10)) + 3) (by omega)
                            refine go_if (k := 4) (p1 := 204) (p2 := 193) (L' := [some (.inr (.inr (some 79))), some (.inl ((dt 79 14) - 20))]) (st' := []) (w' := (SH, dt345)) (fun _ => rfl) (c_ne (a := (dt 79 14) - 20) (b := 6) ⟨by omega, by omega⟩ ⟨by omega, by omega⟩) (fun c357 => ?_) (fun c357 => ?_)
                            · skip
                              refine go_to (k := 2) (pc' := 208) (L' := [some (.inr (.inr (some 79))), some (.inl ((dt 79 14) - 20))]) (st' := [.inl 159, .inr (.inr (some 79))]) (w' := (SH, dt345)) (fun _ => rfl) ?_
                              refine go_call (Q' := _) rfl rfl rfl rfl rfl (sp_X6_need0 L xs sio (d + 1) dt345 hI346  159 ⟨by omega, by omega⟩ (by first | trivial | omega)) ?_
                              rintro _ _ ⟨dt359, rfl, hI360, hF361, h358⟩
                              refine ⟨rfl, ?_⟩
                              have hF362 : Fr [79, 82] dt dt359 := Fr_tr hF348 hF361 (by decide)
                              have E84363 : dt359 84 = dt 84 := (funext (hF361 84 (by decide))).trans E84349
                              rcases h358 with ⟨rfl, h358⟩ | ⟨rfl, h358⟩
                              · skip
                                obtain ⟨h358_0, h358_1, h358_2, h358_3⟩ := h358
                                have BL364 : ∀ j : Nat, (j : Int) < 5 * dt 79 10 → dt359 82 j = dt 82 j := fun j hj => (hF361 82 (by decide) j).trans (BL350 j hj)
                                have y365 : dt359 82 ((5 * (dt 79 10))).toNat = dt345 82 ((5 * (dt 79 10))).toNat := hF361 82 (by decide) _
                                have y366 : dt359 82 ((5 * (dt 79 10)) + 1).toNat = dt345 82 ((5 * (dt 79 10)) + 1).toNat := hF361 82 (by decide) _
                                have y367 : dt359 82 ((5 * (dt 79 10)) + 2).toNat = dt345 82 ((5 * (dt 79 10)) + 2).toNat := hF361 82 (by decide) _
                                have y368 : dt359 82 ((5 * (dt 79 10)) + 3).toNat = dt345 82 ((5 * (dt 79 10)) + 3).toNat := hF361 82 (by decide) _
                                have y369 : dt359 82 ((5 * (dt 79 10)) + 4).toNat = dt345 82 ((5 * (dt 79 10)) + 4).toNat := hF361 82 (by decide) _
                                refine go_ret (k := 1) (r := some (.inl 0)) (w1 := (SH, dt359)) (fun _ => rfl) ?_
                                exact ⟨dt359, rfl, hI360, hF362, (Or.inl ⟨rfl, ⟨by first | trivial | omega, by first | trivial | omega, by first | trivial | omega⟩⟩)⟩
                              · skip
                                obtain ⟨h358_0, h358_1, h358_2, h358_3, h358_4, h358_5, h358_6, h358_7, h358_8⟩ := h358
                                have BL370 : ∀ j : Nat, (j : Int) < 5 * dt 79 10 → dt359 82 j = dt 82 j := fun j hj => (hF361 82 (by decide) j).trans (BL350 j hj)
                                have y371 : dt359 82 ((5 * (dt 79 10))).toNat = dt345 82 ((5 * (dt 79 10))).toNat := hF361 82 (by decide) _
                                have y372 : dt359 82 ((5 * (dt 79 10)) + 1).toNat = dt345 82 ((5 * (dt 79 10)) + 1).toNat := hF361 82 (by decide) _
                                have y373 : dt359 82 ((5 * (dt 79 10)) + 2).toNat = dt345 82 ((5 * (dt 79 10)) + 2).toNat := hF361 82 (by decide) _
                                have y374 : dt359 82 ((5 * (dt 79 10)) + 3).toNat = dt345 82 ((5 * (dt 79 10)) + 3).toNat := hF361 82 (by decide) _
                                have y375 : dt359 82 ((5 * (dt 79 10)) + 4).toNat = dt345 82 ((5 * (dt 79 10)) + 4).toNat := hF361 82 (by decide) _
                                refine go_ret (k := 1) (r := some (.inl 1)) (w1 := (SH, dt359)) (fun _ => rfl) ?_
                                exact ⟨dt359, rfl, hI360, hF362, (Or.inr ⟨rfl, ⟨by first | trivial | omega, by exact BL370, by unfold aOK; omega, by first | trivial | omega, by first | trivial | omega, by exact (InvC_get (by assumption) 79 15 rfl rfl).2, by first | trivial | omega, by first | trivial | omega, by first | trivial | omega, by first | trivial | omega, by first | trivial | omega⟩⟩)⟩
                            · exfalso; omega
                · skip
                  refine go_to (k := 3) (pc' := 148) (L' := [some (.inr (.inr (some 79))), some (.inl ((dt 79 14) - 20))]) (st' := [.inl 2, .inl 2, .inr (.inr (some 79))]) (w' := (SH, dt42)) (fun _ => rfl) ?_
                  refine go_call (Q' := _) rfl rfl rfl rfl rfl (sp_X6_argument L xs sio (d + 0) dt42 hI43  2 ⟨by omega, by omega⟩ 2 ⟨by omega, by omega⟩ (by first | trivial | omega) (by first | trivial | omega)) ?_
                  rintro _ _ ⟨dt377, rfl, hI378, hF379, h376⟩
                  refine ⟨rfl, ?_⟩
                  have hF380 : Fr [79, 82] dt dt377 := Fr_tr hF45 hF379 (by decide)
                  have E84381 : dt377 84 = dt 84 := (funext (hF379 84 (by decide))).trans E8446
                  rcases h376 with ⟨rfl, h376⟩ | ⟨rfl, h376⟩
                  · skip
                    obtain ⟨h376_0, h376_1, h376_2, h376_3⟩ := h376
                    refine go_ret (k := 3) (r := some (.inl 0)) (w1 := (SH, dt377)) (fun _ => rfl) ?_
                    exact ⟨dt377, rfl, hI378, hF380, (Or.inl ⟨rfl, ⟨by first | trivial | omega, by first | trivial | omega, by first | trivial | omega⟩⟩)⟩
                  · skip
                    obtain ⟨h376_0, h376_1, h376_2, h376_3, h376_4, h376_5, h376_6, h376_7, h376_8, h376_9, h376_10⟩ := h376
                    have BL382 : ∀ j : Nat, (j : Int) < 5 * dt 79 10 → dt377 82 j = dt 82 j := fun j hj => (h376_0 j (by omega)).trans (BL47 j hj)
                    have y383 := h376_0 ((5 * (dt 79 10))).toNat
                    have y384 := h376_0 ((5 * (dt 79 10)) + 1).toNat
                    have y385 := h376_0 ((5 * (dt 79 10)) + 2).toNat
                    have y386 := h376_0 ((5 * (dt 79 10)) + 3).toNat
                    have y387 := h376_0 ((5 * (dt 79 10)) + 4).toNat
                    have y388 := h376_1 ((5 * (dt 79 10)) + 2) (by omega)
                    refine go_if (k := 4) (p1 := 176) (p2 := 161) (L' := [some (.inr (.inr (some 79))), some (.inl ((dt 79 14) - 20))]) (st' := []) (w' := (SH, dt377)) (fun _ => rfl) (c_eq (a := (dt 79 14) - 20) (b := 2) ⟨by omega, by omega⟩ ⟨by omega, by omega⟩) (fun c389 => ?_) (fun c389 => ?_)
                    · exfalso; omega
                    · skip
                      refine go_if (k := 3) (p1 := 176) (p2 := 166) (L' := [some (.inr (.inr (some 79))), some (.inl ((dt 79 14) - 20))]) (st' := []) (w' := (SH, dt377)) (fun _ => rfl) (c_eq (a := (dt 79 14) - 20) (b := 3) ⟨by omega, by omega⟩ ⟨by omega, by omega⟩) (fun c390 => ?_) (fun c390 => ?_)
                      · exfalso; omega
                      · skip
                        refine go_if (k := 3) (p1 := 176) (p2 := 171) (L' := [some (.inr (.inr (some 79))), some (.inl ((dt 79 14) - 20))]) (st' := []) (w' := (SH, dt377)) (fun _ => rfl) (c_eq (a := (dt 79 14) - 20) (b := 4) ⟨by omega, by omega⟩ ⟨by omega, by omega⟩) (fun c391 => ?_) (fun c391 => ?_)
                        · skip
                          refine go_to (k := 3) (pc' := 179) (L' := [some (.inr (.inr (some 79))), some (.inl ((dt 79 14) - 20))]) (st' := [.inl 3, .inl 3, .inr (.inr (some 79))]) (w' := (SH, dt377)) (fun _ => rfl) ?_
                          refine go_call (Q' := _) rfl rfl rfl rfl rfl (sp_X6_argument L xs sio (d + 0) dt377 hI378  3 ⟨by omega, by omega⟩ 3 ⟨by omega, by omega⟩ (by first | trivial | omega) (by first | trivial | omega)) ?_
                          rintro _ _ ⟨dt393, rfl, hI394, hF395, h392⟩
                          refine ⟨rfl, ?_⟩
                          have hF396 : Fr [79, 82] dt dt393 := Fr_tr hF380 hF395 (by decide)
                          have E84397 : dt393 84 = dt 84 := (funext (hF395 84 (by decide))).trans E84381
                          rcases h392 with ⟨rfl, h392⟩ | ⟨rfl, h392⟩
                          · skip
                            obtain ⟨h392_0, h392_1, h392_2, h392_3⟩ := h392
                            refine go_ret (k := 3) (r := some (.inl 0)) (w1 := (SH, dt393)) (fun _ => rfl) ?_
                            exact ⟨dt393, rfl, hI394, hF396, (Or.inl ⟨rfl, ⟨by first | trivial | omega, by first | trivial | omega, by first | trivial | omega⟩⟩)⟩
                          · skip
                            obtain ⟨h392_0, h392_1, h392_2, h392_3, h392_4, h392_5, h392_6, h392_7, h392_8, h392_9, h392_10⟩ := h392
                            have BL398 : ∀ j : Nat, (j : Int) < 5 * dt 79 10 → dt393 82 j = dt 82 j := fun j hj => (h392_0 j (by omega)).trans (BL382 j hj)
                            have y399 := h392_0 ((5 * (dt 79 10))).toNat
                            have y400 := h392_0 ((5 * (dt 79 10)) + 1).toNat
                            have y401 := h392_0 ((5 * (dt 79 10)) + 2).toNat
                            have y402 := h392_0 ((5 * (dt 79 10)) + 3).toNat
                            have y403 := h392_0 ((5 * (dt 79 10)) + 4).toNat
                            have y404 := h392_1 ((5 * (dt 79 10)) + 3) (by omega)
                            refine go_if (k := 4) (p1 := 204) (p2 := 193) (L' := [some (.inr (.inr (some 79))), some (.inl ((dt 79 14) - 20))]) (st' := []) (w' := (SH, dt393)) (fun _ => rfl) (c_ne (a := (dt 79 14) - 20) (b := 6) ⟨by omega, by omega⟩ ⟨by omega, by omega⟩) (fun c405 => ?_) (fun c405 => ?_)
                            · skip
                              refine go_to (k := 2) (pc' := 208) (L' := [some (.inr (.inr (some 79))), some (.inl ((dt 79 14) - 20))]) (st' := [.inl 159, .inr (.inr (some 79))]) (w' := (SH, dt393)) (fun _ => rfl) ?_
                              refine go_call (Q' := _) rfl rfl rfl rfl rfl (sp_X6_need0 L xs sio (d + 1) dt393 hI394  159 ⟨by omega, by omega⟩ (by first | trivial | omega)) ?_
                              rintro _ _ ⟨dt407, rfl, hI408, hF409, h406⟩
                              refine ⟨rfl, ?_⟩
                              have hF410 : Fr [79, 82] dt dt407 := Fr_tr hF396 hF409 (by decide)
                              have E84411 : dt407 84 = dt 84 := (funext (hF409 84 (by decide))).trans E84397
                              rcases h406 with ⟨rfl, h406⟩ | ⟨rfl, h406⟩
                              · skip
                                obtain ⟨h406_0, h406_1, h406_2, h406_3⟩ := h406
                                have BL412 : ∀ j : Nat, (j : Int) < 5 * dt 79 10 → dt407 82 j = dt 82 j := fun j hj => (hF409 82 (by decide) j).trans (BL398 j hj)
                                have y413 : dt407 82 ((5 * (dt 79 10))).toNat = dt393 82 ((5 * (dt 79 10))).toNat := hF409 82 (by decide) _
                                have y414 : dt407 82 ((5 * (dt 79 10)) + 1).toNat = dt393 82 ((5 * (dt 79 10)) + 1).toNat := hF409 82 (by decide) _
                                have y415 : dt407 82 ((5 * (dt 79 10)) + 2).toNat = dt393 82 ((5 * (dt 79 10)) + 2).toNat := hF409 82 (by decide) _
                                have y416 : dt407 82 ((5 * (dt 79 10)) + 3).toNat = dt393 82 ((5 * (dt 79 10)) + 3).toNat := hF409 82 (by decide) _
                                have y417 : dt407 82 ((5 * (dt 79 10)) + 4).toNat = dt393 82 ((5 * (dt 79 10)) + 4).toNat := hF409 82 (by decide) _
                                refine go_ret (k := 1) (r := some (.inl 0)) (w1 := (SH, dt407)) (fun _ => rfl) ?_
                                exact ⟨dt407, rfl, hI408, hF410, (Or.inl ⟨rfl, ⟨by first | trivial | omega, by first | trivial | omega, by first | trivial | omega⟩⟩)⟩
                              · skip
                                obtain ⟨h406_0, h406_1, h406_2, h406_3, h406_4, h406_5, h406_6, h406_7, h406_8⟩ := h406
                                have BL418 : ∀ j : Nat, (j : Int) < 5 * dt 79 10 → dt407 82 j = dt 82 j := fun j hj => (hF409 82 (by decide) j).trans (BL398 j hj)
                                have y419 : dt407 82 ((5 * (dt 79 10))).toNat = dt393 82 ((5 * (dt 79 10))).toNat := hF409 82 (by decide) _
                                have y420 : dt407 82 ((5 * (dt 79 10)) + 1).toNat = dt393 82 ((5 * (dt 79 10)) + 1).toNat := hF409 82 (by decide) _
                                have y421 : dt407 82 ((5 * (dt 79 10)) + 2).toNat = dt393 82 ((5 * (dt 79 10)) + 2).toNat := hF409 82 (by decide) _
                                have y422 : dt407 82 ((5 * (dt 79 10)) + 3).toNat = dt393 82 ((5 * (dt 79 10)) + 3).toNat := hF409 82 (by decide) _
                                have y423 : dt407 82 ((5 * (dt 79 10)) + 4).toNat = dt393 82 ((5 * (dt 79 10)) + 4).toNat := hF409 82 (by decide) _
                                refine go_ret (k := 1) (r := some (.inl 1)) (w1 := (SH, dt407)) (fun _ => rfl) ?_
                                exact ⟨dt407, rfl, hI408, hF410, (Or.inr ⟨rfl, ⟨by first | trivial | omega, by exact BL418, by unfold aOK; omega, by first | trivial | omega, by first | trivial | omega, by exact (InvC_get (by assumption) 79 15 rfl rfl).2, by first | trivial | omega, by first | trivial | omega, by first | trivial | omega, by first | trivial | omega, by first | trivial | omega⟩⟩)⟩
                            · exfalso; omega
                        · skip
                          refine go_if (k := 3) (p1 := 187) (p2 := 176) (L' := [some (.inr (.inr (some 79))), some (.inl ((dt 79 14) - 20))]) (st' := []) (w' := (SH, dt377)) (fun _ => rfl) (c_ne (a := (dt 79 14) - 20) (b := 5) ⟨by omega, by omega⟩ ⟨by omega, by omega⟩) (fun c424 => ?_) (fun c424 => ?_)
                          · skip
                            refine go_if (k := 3) (p1 := 204) (p2 := 193) (L' := [some (.inr (.inr (some 79))), some (.inl ((dt 79 14) - 20))]) (st' := []) (w' := (SH, dt377)) (fun _ => rfl) (c_ne (a := (dt 79 14) - 20) (b := 6) ⟨by omega, by omega⟩ ⟨by omega, by omega⟩) (fun c425 => ?_) (fun c425 => ?_)
                            · skip
                              refine go_to (k := 2) (pc' := 208) (L' := [some (.inr (.inr (some 79))), some (.inl ((dt 79 14) - 20))]) (st' := [.inl 159, .inr (.inr (some 79))]) (w' := (SH, dt377)) (fun _ => rfl) ?_
                              refine go_call (Q' := _) rfl rfl rfl rfl rfl (sp_X6_need0 L xs sio (d + 1) dt377 hI378  159 ⟨by omega, by omega⟩ (by first | trivial | omega)) ?_
                              rintro _ _ ⟨dt427, rfl, hI428, hF429, h426⟩
                              refine ⟨rfl, ?_⟩
                              have hF430 : Fr [79, 82] dt dt427 := Fr_tr hF380 hF429 (by decide)
                              have E84431 : dt427 84 = dt 84 := (funext (hF429 84 (by decide))).trans E84381
                              rcases h426 with ⟨rfl, h426⟩ | ⟨rfl, h426⟩
                              · skip
                                obtain ⟨h426_0, h426_1, h426_2, h426_3⟩ := h426
                                have BL432 : ∀ j : Nat, (j : Int) < 5 * dt 79 10 → dt427 82 j = dt 82 j := fun j hj => (hF429 82 (by decide) j).trans (BL382 j hj)
                                have y433 : dt427 82 ((5 * (dt 79 10))).toNat = dt377 82 ((5 * (dt 79 10))).toNat := hF429 82 (by decide) _
                                have y434 : dt427 82 ((5 * (dt 79 10)) + 1).toNat = dt377 82 ((5 * (dt 79 10)) + 1).toNat := hF429 82 (by decide) _
                                have y435 : dt427 82 ((5 * (dt 79 10)) + 2).toNat = dt377 82 ((5 * (dt 79 10)) + 2).toNat := hF429 82 (by decide) _
                                have y436 : dt427 82 ((5 * (dt 79 10)) + 3).toNat = dt377 82 ((5 * (dt 79 10)) + 3).toNat := hF429 82 (by decide) _
                                have y437 : dt427 82 ((5 * (dt 79 10)) + 4).toNat = dt377 82 ((5 * (dt 79 10)) + 4).toNat := hF429 82 (by decide) _
                                refine go_ret (k := 1) (r := some (.inl 0)) (w1 := (SH, dt427)) (fun _ => rfl) ?_
                                exact ⟨dt427, rfl, hI428, hF430, (Or.inl ⟨rfl, ⟨by first | trivial | omega, by first | trivial | omega, by first | trivial | omega⟩⟩)⟩
                              · skip
                                obtain ⟨h426_0, h426_1, h426_2, h426_3, h426_4, h426_5, h426_6, h426_7, h426_8⟩ := h426
                                have BL438 : ∀ j : Nat, (j : Int) < 5 * dt 79 10 → dt427 82 j = dt 82 j := fun j hj => (hF429 82 (by decide) j).trans (BL382 j hj)
                                have y439 : dt427 82 ((5 * (dt 79 10))).toNat = dt377 82 ((5 * (dt 79 10))).toNat := hF429 82 (by decide) _
                                have y440 : dt427 82 ((5 * (dt 79 10)) + 1).toNat = dt377 82 ((5 * (dt 79 10)) + 1).toNat := hF429 82 (by decide) _
                                have y441 : dt427 82 ((5 * (dt 79 10)) + 2).toNat = dt377 82 ((5 * (dt 79 10)) + 2).toNat := hF429 82 (by decide) _
                                have y442 : dt427 82 ((5 * (dt 79 10)) + 3).toNat = dt377 82 ((5 * (dt 79 10)) + 3).toNat := hF429 82 (by decide) _
                                have y443 : dt427 82 ((5 * (dt 79 10)) + 4).toNat = dt377 82 ((5 * (dt 79 10)) + 4).toNat := hF429 82 (by decide) _
                                refine go_ret (k := 1) (r := some (.inl 1)) (w1 := (SH, dt427)) (fun _ => rfl) ?_
                                exact ⟨dt427, rfl, hI428, hF430, (Or.inr ⟨rfl, ⟨by first | trivial | omega, by exact BL438, by unfold aOK; omega, by first | trivial | omega, by first | trivial | omega, by exact (InvC_get (by assumption) 79 15 rfl rfl).2, by first | trivial | omega, by first | trivial | omega, by first | trivial | omega, by first | trivial | omega, by first | trivial | omega⟩⟩)⟩
                            · exfalso; omega
                          · exfalso; omega
          · skip
            have r444 : (-2147483648) ≤ dt42 79 14 ∧ dt42 79 14 ≤ 2147483647 := InvC_get hI43 79 14 rfl rfl
            refine go_if (k := 4) (p1 := 119) (p2 := 93) (L' := [some (.inr (.inr (some 79))), some (.inl ((dt 79 14) - 20))]) (st' := []) (w' := (SH, dt42)) (fun _ => rfl) (c_ne (a := dt42 79 14) (b := 2) ⟨by omega, by omega⟩ ⟨by omega, by omega⟩) (fun c445 => ?_) (fun c445 => ?_)
            · skip
              refine go_to (k := 3) (pc' := 122) (L' := [some (.inr (.inr (some 79))), some (.inl ((dt 79 14) - 20))]) (st' := [.inl 3, .inl 4, .inr (.inr (some 79))]) (w' := (SH, dt42)) (fun _ => rfl) ?_
              refine go_call (Q' := _) rfl rfl rfl rfl rfl (sp_X6_argument L xs sio (d + 0) dt42 hI43  4 ⟨by omega, by omega⟩ 3 ⟨by omega, by omega⟩ (by first | trivial | omega) (by first | trivial | omega)) ?_
              rintro _ _ ⟨dt447, rfl, hI448, hF449, h446⟩
              refine ⟨rfl, ?_⟩
              have hF450 : Fr [79, 82] dt dt447 := Fr_tr hF45 hF449 (by decide)
              have E84451 : dt447 84 = dt 84 := (funext (hF449 84 (by decide))).trans E8446
              rcases h446 with ⟨rfl, h446⟩ | ⟨rfl, h446⟩
              · skip
                obtain ⟨h446_0, h446_1, h446_2, h446_3⟩ := h446
                refine go_ret (k := 3) (r := some (.inl 0)) (w1 := (SH, dt447)) (fun _ => rfl) ?_
                exact ⟨dt447, rfl, hI448, hF450, (Or.inl ⟨rfl, ⟨by first | trivial | omega, by first | trivial | omega, by first | trivial | omega⟩⟩)⟩
              · skip
                obtain ⟨h446_0, h446_1, h446_2, h446_3, h446_4, h446_5, h446_6, h446_7, h446_8, h446_9, h446_10⟩ := h446
                have BL452 : ∀ j : Nat, (j : Int) < 5 * dt 79 10 → dt447 82 j = dt 82 j := fun j hj => (h446_0 j (by omega)).trans (BL47 j hj)
                have y453 := h446_0 ((5 * (dt 79 10))).toNat
                have y454 := h446_0 ((5 * (dt 79 10)) + 1).toNat
                have y455 := h446_0 ((5 * (dt 79 10)) + 2).toNat
                have y456 := h446_0 ((5 * (dt 79 10)) + 3).toNat
                have y457 := h446_0 ((5 * (dt 79 10)) + 4).toNat
                have y458 := h446_1 ((5 * (dt 79 10)) + 4) (by omega)
                refine go_if (k := 4) (p1 := 145) (p2 := 135) (L' := [some (.inr (.inr (some 79))), some (.inl ((dt 79 14) - 20))]) (st' := []) (w' := (SH, dt447)) (fun _ => rfl) (c_eq (a := (dt 79 14) - 20) (b := 2) ⟨by omega, by omega⟩ ⟨by omega, by omega⟩) (fun c459 => ?_) (fun c459 => ?_)
                · exfalso; omega
                · skip
                  refine go_if (k := 3) (p1 := 145) (p2 := 140) (L' := [some (.inr (.inr (some 79))), some (.inl ((dt 79 14) - 20))]) (st' := []) (w' := (SH, dt447)) (fun _ => rfl) (c_eq (a := (dt 79 14) - 20) (b := 3) ⟨by omega, by omega⟩ ⟨by omega, by omega⟩) (fun c460 => ?_) (fun c460 => ?_)
                  · exfalso; omega
                  · skip
                    refine go_if (k := 3) (p1 := 156) (p2 := 145) (L' := [some (.inr (.inr (some 79))), some (.inl ((dt 79 14) - 20))]) (st' := []) (w' := (SH, dt447)) (fun _ => rfl) (c_ne (a := (dt 79 14) - 20) (b := 4) ⟨by omega, by omega⟩ ⟨by omega, by omega⟩) (fun c461 => ?_) (fun c461 => ?_)
                    · skip
                      refine go_if (k := 3) (p1 := 176) (p2 := 161) (L' := [some (.inr (.inr (some 79))), some (.inl ((dt 79 14) - 20))]) (st' := []) (w' := (SH, dt447)) (fun _ => rfl) (c_eq (a := (dt 79 14) - 20) (b := 2) ⟨by omega, by omega⟩ ⟨by omega, by omega⟩) (fun c462 => ?_) (fun c462 => ?_)
                      · exfalso; omega
                      · skip
                        refine go_if (k := 3) (p1 := 176) (p2 := 166) (L' := [some (.inr (.inr (some 79))), some (.inl ((dt 79 14) - 20))]) (st' := []) (w' := (SH, dt447)) (fun _ => rfl) (c_eq (a := (dt 79 14) - 20) (b := 3) ⟨by omega, by omega⟩ ⟨by omega, by omega⟩) (fun c463 => ?_) (fun c463 => ?_)
                        · exfalso; omega
                        · skip
                          refine go_if (k := 3) (p1 := 176) (p2 := 171) (L' := [some (.inr (.inr (some 79))), some (.inl ((dt 79 14) - 20))]) (st' := []) (w' := (SH, dt447)) (fun _ => rfl) (c_eq (a := (dt 79 14) - 20) (b := 4) ⟨by omega, by omega⟩ ⟨by omega, by omega⟩) (fun c464 => ?_) (fun c464 => ?_)
                          · exfalso; omega
                          · skip
                            refine go_if (k := 3) (p1 := 187) (p2 := 176) (L' := [some (.inr (.inr (some 79))), some (.inl ((dt 79 14) - 20))]) (st' := []) (w' := (SH, dt447)) (fun _ => rfl) (c_ne (a := (dt 79 14) - 20) (b := 5) ⟨by omega, by omega⟩ ⟨by omega, by omega⟩) (fun c465 => ?_) (fun c465 => ?_)
                            · skip
                              refine go_if (k := 3) (p1 := 204) (p2 := 193) (L' := [some (.inr (.inr (some 79))), some (.inl ((dt 79 14) - 20))]) (st' := []) (w' := (SH, dt447)) (fun _ => rfl) (c_ne (a := (dt 79 14) - 20) (b := 6) ⟨by omega, by omega⟩ ⟨by omega, by omega⟩) (fun c466 => ?_) (fun c466 => ?_)
                              · skip
                                refine go_to (k := 2) (pc' := 208) (L' := [some (.inr (.inr (some 79))), some (.inl ((dt 79 14) - 20))]) (st' := [.inl 159, .inr (.inr (some 79))]) (w' := (SH, dt447)) (fun _ => rfl) ?_
                                refine go_call (Q' := _) rfl rfl rfl rfl rfl (sp_X6_need0 L xs sio (d + 1) dt447 hI448  159 ⟨by omega, by omega⟩ (by first | trivial | omega)) ?_
                                rintro _ _ ⟨dt468, rfl, hI469, hF470, h467⟩
                                refine ⟨rfl, ?_⟩
                                have hF471 : Fr [79, 82] dt dt468 := Fr_tr hF450 hF470 (by decide)
                                have E84472 : dt468 84 = dt 84 := (funext (hF470 84 (by decide))).trans E84451
                                rcases h467 with ⟨rfl, h467⟩ | ⟨rfl, h467⟩
                                · skip
                                  obtain ⟨h467_0, h467_1, h467_2, h467_3⟩ := h467
                                  have BL473 : ∀ j : Nat, (j : Int) < 5 * dt 79 10 → dt468 82 j = dt 82 j := fun j hj => (hF470 82 (by decide) j).trans (BL452 j hj)
                                  have y474 : dt468 82 ((5 * (dt 79 10))).toNat = dt447 82 ((5 * (dt 79 10))).toNat := hF470 82 (by decide) _
                                  have y475 : dt468 82 ((5 * (dt 79 10)) + 1).toNat = dt447 82 ((5 * (dt 79 10)) + 1).toNat := hF470 82 (by decide) _
                                  have y476 : dt468 82 ((5 * (dt 79 10)) + 2).toNat = dt447 82 ((5 * (dt 79 10)) + 2).toNat := hF470 82 (by decide) _
                                  have y477 : dt468 82 ((5 * (dt 79 10)) + 3).toNat = dt447 82 ((5 * (dt 79 10)) + 3).toNat := hF470 82 (by decide) _
                                  have y478 : dt468 82 ((5 * (dt 79 10)) + 4).toNat = dt447 82 ((5 * (dt 79 10)) + 4).toNat := hF470 82 (by decide) _
                                  refine go_ret (k := 1) (r := some (.inl 0)) (w1 := (SH, dt468)) (fun _ => rfl) ?_
                                  exact ⟨dt468, rfl, hI469, hF471, (Or.inl ⟨rfl, ⟨by first | trivial | omega, by first | trivial | omega, by first | trivial | omega⟩⟩)⟩
                                · skip
                                  obtain ⟨h467_0, h467_1, h467_2, h467_3, h467_4, h467_5, h467_6, h467_7, h467_8⟩ := h467
                                  have BL479 : ∀ j : Nat, (j : Int) < 5 * dt 79 10 → dt468 82 j = dt 82 j := fun j hj => (hF470 82 (by decide) j).trans (BL452 j hj)
                                  have y480 : dt468 82 ((5 * (dt 79 10))).toNat = dt447 82 ((5 * (dt 79 10))).toNat := hF470 82 (by decide) _
                                  have y481 : dt468 82 ((5 * (dt 79 10)) + 1).toNat = dt447 82 ((5 * (dt 79 10)) + 1).toNat := hF470 82 (by decide) _
                                  have y482 : dt468 82 ((5 * (dt 79 10)) + 2).toNat = dt447 82 ((5 * (dt 79 10)) + 2).toNat := hF470 82 (by decide) _
                                  have y483 : dt468 82 ((5 * (dt 79 10)) + 3).toNat = dt447 82 ((5 * (dt 79 10)) + 3).toNat := hF470 82 (by decide) _
                                  have y484 : dt468 82 ((5 * (dt 79 10)) + 4).toNat = dt447 82 ((5 * (dt 79 10)) + 4).toNat := hF470 82 (by decide) _
                                  refine go_ret (k := 1) (r := some (.inl 1)) (w1 := (SH, dt468)) (fun _ => rfl) ?_
                                  exact ⟨dt468, rfl, hI469, hF471, (Or.inr ⟨rfl, ⟨by first | trivial | omega, by exact BL479, by unfold aOK; omega, by first | trivial | omega, by first | trivial | omega, by exact (InvC_get (by assumption) 79 15 rfl rfl).2, by first | trivial | omega, by first | trivial | omega, by first | trivial | omega, by first | trivial | omega, by first | trivial | omega⟩⟩)⟩
                              · exfalso; omega
                            · exfalso; omega
                    · skip
                      refine go_to (k := 3) (pc' := 148) (L' := [some (.inr (.inr (some 79))), some (.inl ((dt 79 14) - 20))]) (st' := [.inl 2, .inl 2, .inr (.inr (some 79))]) (w' := (SH, dt447)) (fun _ => rfl) ?_
                      refine go_call (Q' := _) rfl rfl rfl rfl rfl (sp_X6_argument L xs sio (d + 0) dt447 hI448  2 ⟨by omega, by omega⟩ 2 ⟨by omega, by omega⟩ (by first | trivial | omega) (by first | trivial | omega)) ?_
                      rintro _ _ ⟨dt486, rfl, hI487, hF488, h485⟩
                      refine ⟨rfl, ?_⟩
                      have hF489 : Fr [79, 82] dt dt486 := Fr_tr hF450 hF488 (by decide)
                      have E84490 : dt486 84 = dt 84 := (funext (hF488 84 (by decide))).trans E84451
                      rcases h485 with ⟨rfl, h485⟩ | ⟨rfl, h485⟩
                      · skip
                        obtain ⟨h485_0, h485_1, h485_2, h485_3⟩ := h485
                        refine go_ret (k := 3) (r := some (.inl 0)) (w1 := (SH, dt486)) (fun _ => rfl) ?_
                        exact ⟨dt486, rfl, hI487, hF489, (Or.inl ⟨rfl, ⟨by first | trivial | omega, by first | trivial | omega, by first | trivial | omega⟩⟩)⟩
                      · skip
                        obtain ⟨h485_0, h485_1, h485_2, h485_3, h485_4, h485_5, h485_6, h485_7, h485_8, h485_9, h485_10⟩ := h485
                        have BL491 : ∀ j : Nat, (j : Int) < 5 * dt 79 10 → dt486 82 j = dt 82 j := fun j hj => (h485_0 j (by omega)).trans (BL452 j hj)
                        have y492 := h485_0 ((5 * (dt 79 10))).toNat
                        have y493 := h485_0 ((5 * (dt 79 10)) + 1).toNat
                        have y494 := h485_0 ((5 * (dt 79 10)) + 2).toNat
                        have y495 := h485_0 ((5 * (dt 79 10)) + 3).toNat
                        have y496 := h485_0 ((5 * (dt 79 10)) + 4).toNat
                        have y497 := h485_1 ((5 * (dt 79 10)) + 2) (by omega)
                        refine go_if (k := 4) (p1 := 176) (p2 := 161) (L' := [some (.inr (.inr (some 79))), some (.inl ((dt 79 14) - 20))]) (st' := []) (w' := (SH, dt486)) (fun _ => rfl) (c_eq (a := (dt 79 14) - 20) (b := 2) ⟨by omega, by omega⟩ ⟨by omega, by omega⟩) (fun c498 => ?_) (fun c498 => ?_)
                        · exfalso; omega
                        · skip
                          refine go_if (k := 3) (p1 := 176) (p2 := 166) (L' := [some (.inr (.inr (some 79))), some (.inl ((dt 79 14) - 20))]) (st' := []) (w' := (SH, dt486)) (fun _ => rfl) (c_eq (a := (dt 79 14) - 20) (b := 3) ⟨by omega, by omega⟩ ⟨by omega, by omega⟩) (fun c499 => ?_) (fun c499 => ?_)
                          · exfalso; omega
                          · skip
                            refine go_if (k := 3) (p1 := 176) (p2 := 171) (L' := [some (.inr (.inr (some 79))), some (.inl ((dt 79 14) - 20))]) (st' := []) (w' := (SH, dt486)) (fun _ => rfl) (c_eq (a := (dt 79 14) - 20) (b := 4) ⟨by omega, by omega⟩ ⟨by omega, by omega⟩) (fun c500 => ?_) (fun c500 => ?_)
                            · skip
                              refine go_to (k := 3) (pc' := 179) (L' := [some (.inr (.inr (some 79))), some (.inl ((dt 79 14) - 20))]) (st' := [.inl 3, .inl 3, .inr (.inr (some 79))]) (w' := (SH, dt486)) (fun _ => rfl) ?_
                              refine go_call (Q' := _) rfl rfl rfl rfl rfl (sp_X6_argument L xs sio (d + 0) dt486 hI487  3 ⟨by omega, by omega⟩ 3 ⟨by omega, by omega⟩ (by first | trivial | omega) (by first | trivial | omega)) ?_
                              rintro _ _ ⟨dt502, rfl, hI503, hF504, h501⟩
                              refine ⟨rfl, ?_⟩
                              have hF505 : Fr [79, 82] dt dt502 := Fr_tr hF489 hF504 (by decide)
                              have E84506 : dt502 84 = dt 84 := (funext (hF504 84 (by decide))).trans E84490
                              rcases h501 with ⟨rfl, h501⟩ | ⟨rfl, h501⟩
                              · skip
                                obtain ⟨h501_0, h501_1, h501_2, h501_3⟩ := h501
                                refine go_ret (k := 3) (r := some (.inl 0)) (w1 := (SH, dt502)) (fun _ => rfl) ?_
                                exact ⟨dt502, rfl, hI503, hF505, (Or.inl ⟨rfl, ⟨by first | trivial | omega, by first | trivial | omega, by first | trivial | omega⟩⟩)⟩
                              · skip
                                obtain ⟨h501_0, h501_1, h501_2, h501_3, h501_4, h501_5, h501_6, h501_7, h501_8, h501_9, h501_10⟩ := h501
                                have BL507 : ∀ j : Nat, (j : Int) < 5 * dt 79 10 → dt502 82 j = dt 82 j := fun j hj => (h501_0 j (by omega)).trans (BL491 j hj)
                                have y508 := h501_0 ((5 * (dt 79 10))).toNat
                                have y509 := h501_0 ((5 * (dt 79 10)) + 1).toNat
                                have y510 := h501_0 ((5 * (dt 79 10)) + 2).toNat
                                have y511 := h501_0 ((5 * (dt 79 10)) + 3).toNat
                                have y512 := h501_0 ((5 * (dt 79 10)) + 4).toNat
                                have y513 := h501_1 ((5 * (dt 79 10)) + 3) (by omega)
                                refine go_if (k := 4) (p1 := 204) (p2 := 193) (L' := [some (.inr (.inr (some 79))), some (.inl ((dt 79 14) - 20))]) (st' := []) (w' := (SH, dt502)) (fun _ => rfl) (c_ne (a := (dt 79 14) - 20) (b := 6) ⟨by omega, by omega⟩ ⟨by omega, by omega⟩) (fun c514 => ?_) (fun c514 => ?_)
                                · skip
                                  refine go_to (k := 2) (pc' := 208) (L' := [some (.inr (.inr (some 79))), some (.inl ((dt 79 14) - 20))]) (st' := [.inl 159, .inr (.inr (some 79))]) (w' := (SH, dt502)) (fun _ => rfl) ?_
                                  refine go_call (Q' := _) rfl rfl rfl rfl rfl (sp_X6_need0 L xs sio (d + 1) dt502 hI503  159 ⟨by omega, by omega⟩ (by first | trivial | omega)) ?_
                                  rintro _ _ ⟨dt516, rfl, hI517, hF518, h515⟩
                                  refine ⟨rfl, ?_⟩
                                  have hF519 : Fr [79, 82] dt dt516 := Fr_tr hF505 hF518 (by decide)
                                  have E84520 : dt516 84 = dt 84 := (funext (hF518 84 (by decide))).trans E84506
                                  rcases h515 with ⟨rfl, h515⟩ | ⟨rfl, h515⟩
                                  · skip
                                    obtain ⟨h515_0, h515_1, h515_2, h515_3⟩ := h515
                                    have BL521 : ∀ j : Nat, (j : Int) < 5 * dt 79 10 → dt516 82 j = dt 82 j := fun j hj => (hF518 82 (by decide) j).trans (BL507 j hj)
                                    have y522 : dt516 82 ((5 * (dt 79 10))).toNat = dt502 82 ((5 * (dt 79 10))).toNat := hF518 82 (by decide) _
                                    have y523 : dt516 82 ((5 * (dt 79 10)) + 1).toNat = dt502 82 ((5 * (dt 79 10)) + 1).toNat := hF518 82 (by decide) _
                                    have y524 : dt516 82 ((5 * (dt 79 10)) + 2).toNat = dt502 82 ((5 * (dt 79 10)) + 2).toNat := hF518 82 (by decide) _
                                    have y525 : dt516 82 ((5 * (dt 79 10)) + 3).toNat = dt502 82 ((5 * (dt 79 10)) + 3).toNat := hF518 82 (by decide) _
                                    have y526 : dt516 82 ((5 * (dt 79 10)) + 4).toNat = dt502 82 ((5 * (dt 79 10)) + 4).toNat := hF518 82 (by decide) _
                                    refine go_ret (k := 1) (r := some (.inl 0)) (w1 := (SH, dt516)) (fun _ => rfl) ?_
                                    exact ⟨dt516, rfl, hI517, hF519, (Or.inl ⟨rfl, ⟨by first | trivial | omega, by first | trivial | omega, by first | trivial | omega⟩⟩)⟩
                                  · skip
                                    obtain ⟨h515_0, h515_1, h515_2, h515_3, h515_4, h515_5, h515_6, h515_7, h515_8⟩ := h515
                                    have BL527 : ∀ j : Nat, (j : Int) < 5 * dt 79 10 → dt516 82 j = dt 82 j := fun j hj => (hF518 82 (by decide) j).trans (BL507 j hj)
                                    have y528 : dt516 82 ((5 * (dt 79 10))).toNat = dt502 82 ((5 * (dt 79 10))).toNat := hF518 82 (by decide) _
                                    have y529 : dt516 82 ((5 * (dt 79 10)) + 1).toNat = dt502 82 ((5 * (dt 79 10)) + 1).toNat := hF518 82 (by decide) _
                                    have y530 : dt516 82 ((5 * (dt 79 10)) + 2).toNat = dt502 82 ((5 * (dt 79 10)) + 2).toNat := hF518 82 (by decide) _
                                    have y531 : dt516 82 ((5 * (dt 79 10)) + 3).toNat = dt502 82 ((5 * (dt 79 10)) + 3).toNat := hF518 82 (by decide) _
                                    have y532 : dt516 82 ((5 * (dt 79 10)) + 4).toNat = dt502 82 ((5 * (dt 79 10)) + 4).toNat := hF518 82 (by decide) _
                                    refine go_ret (k := 1) (r := some (.inl 1)) (w1 := (SH, dt516)) (fun _ => rfl) ?_
                                    exact ⟨dt516, rfl, hI517, hF519, (Or.inr ⟨rfl, ⟨by first | trivial | omega, by exact BL527, by unfold aOK; omega, by first | trivial | omega, by first | trivial | omega, by exact (InvC_get (by assumption) 79 15 rfl rfl).2, by first | trivial | omega, by first | trivial | omega, by first | trivial | omega, by first | trivial | omega, by first | trivial | omega⟩⟩)⟩
                                · exfalso; omega
                            · skip
                              refine go_if (k := 3) (p1 := 187) (p2 := 176) (L' := [some (.inr (.inr (some 79))), some (.inl ((dt 79 14) - 20))]) (st' := []) (w' := (SH, dt486)) (fun _ => rfl) (c_ne (a := (dt 79 14) - 20) (b := 5) ⟨by omega, by omega⟩ ⟨by omega, by omega⟩) (fun c533 => ?_) (fun c533 => ?_)
                              · skip
                                refine go_if (k := 3) (p1 := 204) (p2 := 193) (L' := [some (.inr (.inr (some 79))), some (.inl ((dt 79 14) - 20))]) (st' := []) (w' := (SH, dt486)) (fun _ => rfl) (c_ne (a := (dt 79 14) - 20) (b := 6) ⟨by omega, by omega⟩ ⟨by omega, by omega⟩) (fun c534 => ?_) (fun c534 => ?_)
                                · skip
                                  refine go_to (k := 2) (pc' := 208) (L' := [some (.inr (.inr (some 79))), some (.inl ((dt 79 14) - 20))]) (st' := [.inl 159, .inr (.inr (some 79))]) (w' := (SH, dt486)) (fun _ => rfl) ?_
                                  refine go_call (Q' := _) rfl rfl rfl rfl rfl (sp_X6_need0 L xs sio (d + 1) dt486 hI487  159 ⟨by omega, by omega⟩ (by first | trivial | omega)) ?_
                                  rintro _ _ ⟨dt536, rfl, hI537, hF538, h535⟩
                                  refine ⟨rfl, ?_⟩
                                  have hF539 : Fr [79, 82] dt dt536 := Fr_tr hF489 hF538 (by decide)
                                  have E84540 : dt536 84 = dt 84 := (funext (hF538 84 (by decide))).trans E84490
                                  rcases h535 with ⟨rfl, h535⟩ | ⟨rfl, h535⟩
                                  · skip
                                    obtain ⟨h535_0, h535_1, h535_2, h535_3⟩ := h535
                                    have BL541 : ∀ j : Nat, (j : Int) < 5 * dt 79 10 → dt536 82 j = dt 82 j := fun j hj => (hF538 82 (by decide) j).trans (BL491 j hj)
                                    have y542 : dt536 82 ((5 * (dt 79 10))).toNat = dt486 82 ((5 * (dt 79 10))).toNat := hF538 82 (by decide) _
                                    have y543 : dt536 82 ((5 * (dt 79 10)) + 1).toNat = dt486 82 ((5 * (dt 79 10)) + 1).toNat := hF538 82 (by decide) _
                                    have y544 : dt536 82 ((5 * (dt 79 10)) + 2).toNat = dt486 82 ((5 * (dt 79 10)) + 2).toNat := hF538 82 (by decide) _
                                    have y545 : dt536 82 ((5 * (dt 79 10)) + 3).toNat = dt486 82 ((5 * (dt 79 10)) + 3).toNat := hF538 82 (by decide) _
                                    have y546 : dt536 82 ((5 * (dt 79 10)) + 4).toNat = dt486 82 ((5 * (dt 79 10)) + 4).toNat := hF538 82 (by decide) _
                                    refine go_ret (k := 1) (r := some (.inl 0)) (w1 := (SH, dt536)) (fun _ => rfl) ?_
                                    exact ⟨dt536, rfl, hI537, hF539, (Or.inl ⟨rfl, ⟨by first | trivial | omega, by first | trivial | omega, by first | trivial | omega⟩⟩)⟩
                                  · skip
                                    obtain ⟨h535_0, h535_1, h535_2, h535_3, h535_4, h535_5, h535_6, h535_7, h535_8⟩ := h535
                                    have BL547 : ∀ j : Nat, (j : Int) < 5 * dt 79 10 → dt536 82 j = dt 82 j := fun j hj => (hF538 82 (by decide) j).trans (BL491 j hj)
                                    have y548 : dt536 82 ((5 * (dt 79 10))).toNat = dt486 82 ((5 * (dt 79 10))).toNat := hF538 82 (by decide) _
                                    have y549 : dt536 82 ((5 * (dt 79 10)) + 1).toNat = dt486 82 ((5 * (dt 79 10)) + 1).toNat := hF538 82 (by decide) _
                                    have y550 : dt536 82 ((5 * (dt 79 10)) + 2).toNat = dt486 82 ((5 * (dt 79 10)) + 2).toNat := hF538 82 (by decide) _
                                    have y551 : dt536 82 ((5 * (dt 79 10)) + 3).toNat = dt486 82 ((5 * (dt 79 10)) + 3).toNat := hF538 82 (by decide) _
                                    have y552 : dt536 82 ((5 * (dt 79 10)) + 4).toNat = dt486 82 ((5 * (dt 79 10)) + 4).toNat := hF538 82 (by decide) _
                                    refine go_ret (k := 1) (r := some (.inl 1)) (w1 := (SH, dt536)) (fun _ => rfl) ?_
                                    exact ⟨dt536, rfl, hI537, hF539, (Or.inr ⟨rfl, ⟨by first | trivial | omega, by exact BL547, by unfold aOK; omega, by first | trivial | omega, by first | trivial | omega, by exact (InvC_get (by assumption) 79 15 rfl rfl).2, by first | trivial | omega, by first | trivial | omega, by first | trivial | omega, by first | trivial | omega, by first | trivial | omega⟩⟩)⟩
                                · exfalso; omega
                              · exfalso; omega
            · skip
              have r553 : 0 ≤ dt42 79 16 ∧ dt42 79 16 ≤ 9999 := InvC_get hI43 79 16 rfl rfl
              have r554 : 0 ≤ dt42 79 10 ∧ dt42 79 10 ≤ 24 := InvC_get hI43 79 10 rfl rfl
              refine go_to (k := 10) (pc' := 109) (L' := [some (.inr (.inr (some 79))), some (.inl ((dt 79 14) - 20))]) (st' := [.inl ((5 * (dt42 79 10)) + 1), .inr (.inr (some 82)), .inl (dt42 79 16)]) (w' := (SH, dt42)) (fun _ => rfl) ?_
              have r555 : (-2147483648) ≤ dt42 82 (((5 * (dt42 79 10)) + 1).toNat) ∧ dt42 82 (((5 * (dt42 79 10)) + 1).toNat) ≤ 2147483647 := InvC_get hI43 82 (((5 * (dt42 79 10)) + 1).toNat) rfl rfl
              refine go_smp (L' := [some (.inr (.inr (some 79))), some (.inl ((dt 79 14) - 20))]) (st' := [.inl (dt42 82 (((5 * (dt42 79 10)) + 1).toNat)), .inl (dt42 79 16)]) (w' := (SH, dt42)) rfl rfl (s_iald (n := 120) (f := dt42 82) rfl ⟨by omega, by omega⟩) ?_
              refine go_if (k := 1) (p1 := 119) (p2 := 113) (L' := [some (.inr (.inr (some 79))), some (.inl ((dt 79 14) - 20))]) (st' := []) (w' := (SH, dt42)) (fun _ => rfl) (c_ne (a := dt42 79 16) (b := dt42 82 (((5 * (dt42 79 10)) + 1).toNat)) ⟨by omega, by omega⟩ ⟨by omega, by omega⟩) (fun c556 => ?_) (fun c556 => ?_)
              · skip
                refine go_to (k := 3) (pc' := 122) (L' := [some (.inr (.inr (some 79))), some (.inl ((dt 79 14) - 20))]) (st' := [.inl 3, .inl 4, .inr (.inr (some 79))]) (w' := (SH, dt42)) (fun _ => rfl) ?_
                refine go_call (Q' := _) rfl rfl rfl rfl rfl (sp_X6_argument L xs sio (d + 0) dt42 hI43  4 ⟨by omega, by omega⟩ 3 ⟨by omega, by omega⟩ (by first | trivial | omega) (by first | trivial | omega)) ?_
                rintro _ _ ⟨dt558, rfl, hI559, hF560, h557⟩
                refine ⟨rfl, ?_⟩
                have hF561 : Fr [79, 82] dt dt558 := Fr_tr hF45 hF560 (by decide)
                have E84562 : dt558 84 = dt 84 := (funext (hF560 84 (by decide))).trans E8446
                rcases h557 with ⟨rfl, h557⟩ | ⟨rfl, h557⟩
                · skip
                  obtain ⟨h557_0, h557_1, h557_2, h557_3⟩ := h557
                  refine go_ret (k := 3) (r := some (.inl 0)) (w1 := (SH, dt558)) (fun _ => rfl) ?_
                  exact ⟨dt558, rfl, hI559, hF561, (Or.inl ⟨rfl, ⟨by first | trivial | omega, by first | trivial | omega, by first | trivial | omega⟩⟩)⟩
                · skip
                  obtain ⟨h557_0, h557_1, h557_2, h557_3, h557_4, h557_5, h557_6, h557_7, h557_8, h557_9, h557_10⟩ := h557
                  have BL563 : ∀ j : Nat, (j : Int) < 5 * dt 79 10 → dt558 82 j = dt 82 j := fun j hj => (h557_0 j (by omega)).trans (BL47 j hj)
                  have y564 := h557_0 ((5 * (dt 79 10))).toNat
                  have y565 := h557_0 ((5 * (dt 79 10)) + 1).toNat
                  have y566 := h557_0 ((5 * (dt 79 10)) + 2).toNat
                  have y567 := h557_0 ((5 * (dt 79 10)) + 3).toNat
                  have y568 := h557_0 ((5 * (dt 79 10)) + 4).toNat
                  have y569 := h557_1 ((5 * (dt 79 10)) + 4) (by omega)
                  refine go_if (k := 4) (p1 := 145) (p2 := 135) (L' := [some (.inr (.inr (some 79))), some (.inl ((dt 79 14) - 20))]) (st' := []) (w' := (SH, dt558)) (fun _ => rfl) (c_eq (a := (dt 79 14) - 20) (b := 2) ⟨by omega, by omega⟩ ⟨by omega, by omega⟩) (fun c570 => ?_) (fun c570 => ?_)
                  · exfalso; omega
                  · skip
                    refine go_if (k := 3) (p1 := 145) (p2 := 140) (L' := [some (.inr (.inr (some 79))), some (.inl ((dt 79 14) - 20))]) (st' := []) (w' := (SH, dt558)) (fun _ => rfl) (c_eq (a := (dt 79 14) - 20) (b := 3) ⟨by omega, by omega⟩ ⟨by omega, by omega⟩) (fun c571 => ?_) (fun c571 => ?_)
                    · exfalso; omega
                    · skip
                      refine go_if (k := 3) (p1 := 156) (p2 := 145) (L' := [some (.inr (.inr (some 79))), some (.inl ((dt 79 14) - 20))]) (st' := []) (w' := (SH, dt558)) (fun _ => rfl) (c_ne (a := (dt 79 14) - 20) (b := 4) ⟨by omega, by omega⟩ ⟨by omega, by omega⟩) (fun c572 => ?_) (fun c572 => ?_)
                      · skip
                        refine go_if (k := 3) (p1 := 176) (p2 := 161) (L' := [some (.inr (.inr (some 79))), some (.inl ((dt 79 14) - 20))]) (st' := []) (w' := (SH, dt558)) (fun _ => rfl) (c_eq (a := (dt 79 14) - 20) (b := 2) ⟨by omega, by omega⟩ ⟨by omega, by omega⟩) (fun c573 => ?_) (fun c573 => ?_)
                        · exfalso; omega
                        · skip
                          refine go_if (k := 3) (p1 := 176) (p2 := 166) (L' := [some (.inr (.inr (some 79))), some (.inl ((dt 79 14) - 20))]) (st' := []) (w' := (SH, dt558)) (fun _ => rfl) (c_eq (a := (dt 79 14) - 20) (b := 3) ⟨by omega, by omega⟩ ⟨by omega, by omega⟩) (fun c574 => ?_) (fun c574 => ?_)
                          · exfalso; omega
                          · skip
                            refine go_if (k := 3) (p1 := 176) (p2 := 171) (L' := [some (.inr (.inr (some 79))), some (.inl ((dt 79 14) - 20))]) (st' := []) (w' := (SH, dt558)) (fun _ => rfl) (c_eq (a := (dt 79 14) - 20) (b := 4) ⟨by omega, by omega⟩ ⟨by omega, by omega⟩) (fun c575 => ?_) (fun c575 => ?_)
                            · exfalso; omega
                            · skip
                              refine go_if (k := 3) (p1 := 187) (p2 := 176) (L' := [some (.inr (.inr (some 79))), some (.inl ((dt 79 14) - 20))]) (st' := []) (w' := (SH, dt558)) (fun _ => rfl) (c_ne (a := (dt 79 14) - 20) (b := 5) ⟨by omega, by omega⟩ ⟨by omega, by omega⟩) (fun c576 => ?_) (fun c576 => ?_)
                              · skip
                                refine go_if (k := 3) (p1 := 204) (p2 := 193) (L' := [some (.inr (.inr (some 79))), some (.inl ((dt 79 14) - 20))]) (st' := []) (w' := (SH, dt558)) (fun _ => rfl) (c_ne (a := (dt 79 14) - 20) (b := 6) ⟨by omega, by omega⟩ ⟨by omega, by omega⟩) (fun c577 => ?_) (fun c577 => ?_)
                                · skip
                                  refine go_to (k := 2) (pc' := 208) (L' := [some (.inr (.inr (some 79))), some (.inl ((dt 79 14) - 20))]) (st' := [.inl 159, .inr (.inr (some 79))]) (w' := (SH, dt558)) (fun _ => rfl) ?_
                                  refine go_call (Q' := _) rfl rfl rfl rfl rfl (sp_X6_need0 L xs sio (d + 1) dt558 hI559  159 ⟨by omega, by omega⟩ (by first | trivial | omega)) ?_
                                  rintro _ _ ⟨dt579, rfl, hI580, hF581, h578⟩
                                  refine ⟨rfl, ?_⟩
                                  have hF582 : Fr [79, 82] dt dt579 := Fr_tr hF561 hF581 (by decide)
                                  have E84583 : dt579 84 = dt 84 := (funext (hF581 84 (by decide))).trans E84562
                                  rcases h578 with ⟨rfl, h578⟩ | ⟨rfl, h578⟩
                                  · skip
                                    obtain ⟨h578_0, h578_1, h578_2, h578_3⟩ := h578
                                    have BL584 : ∀ j : Nat, (j : Int) < 5 * dt 79 10 → dt579 82 j = dt 82 j := fun j hj => (hF581 82 (by decide) j).trans (BL563 j hj)
                                    have y585 : dt579 82 ((5 * (dt 79 10))).toNat = dt558 82 ((5 * (dt 79 10))).toNat := hF581 82 (by decide) _
                                    have y586 : dt579 82 ((5 * (dt 79 10)) + 1).toNat = dt558 82 ((5 * (dt 79 10)) + 1).toNat := hF581 82 (by decide) _
                                    have y587 : dt579 82 ((5 * (dt 79 10)) + 2).toNat = dt558 82 ((5 * (dt 79 10)) + 2).toNat := hF581 82 (by decide) _
                                    have y588 : dt579 82 ((5 * (dt 79 10)) + 3).toNat = dt558 82 ((5 * (dt 79 10)) + 3).toNat := hF581 82 (by decide) _
                                    have y589 : dt579 82 ((5 * (dt 79 10)) + 4).toNat = dt558 82 ((5 * (dt 79 10)) + 4).toNat := hF581 82 (by decide) _
                                    refine go_ret (k := 1) (r := some (.inl 0)) (w1 := (SH, dt579)) (fun _ => rfl) ?_
                                    exact ⟨dt579, rfl, hI580, hF582, (Or.inl ⟨rfl, ⟨by first | trivial | omega, by first | trivial | omega, by first | trivial | omega⟩⟩)⟩
                                  · skip
                                    obtain ⟨h578_0, h578_1, h578_2, h578_3, h578_4, h578_5, h578_6, h578_7, h578_8⟩ := h578
                                    have BL590 : ∀ j : Nat, (j : Int) < 5 * dt 79 10 → dt579 82 j = dt 82 j := fun j hj => (hF581 82 (by decide) j).trans (BL563 j hj)
                                    have y591 : dt579 82 ((5 * (dt 79 10))).toNat = dt558 82 ((5 * (dt 79 10))).toNat := hF581 82 (by decide) _
                                    have y592 : dt579 82 ((5 * (dt 79 10)) + 1).toNat = dt558 82 ((5 * (dt 79 10)) + 1).toNat := hF581 82 (by decide) _
                                    have y593 : dt579 82 ((5 * (dt 79 10)) + 2).toNat = dt558 82 ((5 * (dt 79 10)) + 2).toNat := hF581 82 (by decide) _
                                    have y594 : dt579 82 ((5 * (dt 79 10)) + 3).toNat = dt558 82 ((5 * (dt 79 10)) + 3).toNat := hF581 82 (by decide) _
                                    have y595 : dt579 82 ((5 * (dt 79 10)) + 4).toNat = dt558 82 ((5 * (dt 79 10)) + 4).toNat := hF581 82 (by decide) _
                                    refine go_ret (k := 1) (r := some (.inl 1)) (w1 := (SH, dt579)) (fun _ => rfl) ?_
                                    exact ⟨dt579, rfl, hI580, hF582, (Or.inr ⟨rfl, ⟨by first | trivial | omega, by exact BL590, by unfold aOK; omega, by first | trivial | omega, by first | trivial | omega, by exact (InvC_get (by assumption) 79 15 rfl rfl).2, by first | trivial | omega, by first | trivial | omega, by first | trivial | omega, by first | trivial | omega, by first | trivial | omega⟩⟩)⟩
                                · exfalso; omega
                              · exfalso; omega
                      · skip
                        refine go_to (k := 3) (pc' := 148) (L' := [some (.inr (.inr (some 79))), some (.inl ((dt 79 14) - 20))]) (st' := [.inl 2, .inl 2, .inr (.inr (some 79))]) (w' := (SH, dt558)) (fun _ => rfl) ?_
                        refine go_call (Q' := _) rfl rfl rfl rfl rfl (sp_X6_argument L xs sio (d + 0) dt558 hI559  2 ⟨by omega, by omega⟩ 2 ⟨by omega, by omega⟩ (by first | trivial | omega) (by first | trivial | omega)) ?_
                        rintro _ _ ⟨dt597, rfl, hI598, hF599, h596⟩
                        refine ⟨rfl, ?_⟩
                        have hF600 : Fr [79, 82] dt dt597 := Fr_tr hF561 hF599 (by decide)
                        have E84601 : dt597 84 = dt 84 := (funext (hF599 84 (by decide))).trans E84562
                        rcases h596 with ⟨rfl, h596⟩ | ⟨rfl, h596⟩
                        · skip
                          obtain ⟨h596_0, h596_1, h596_2, h596_3⟩ := h596
                          refine go_ret (k := 3) (r := some (.inl 0)) (w1 := (SH, dt597)) (fun _ => rfl) ?_
                          exact ⟨dt597, rfl, hI598, hF600, (Or.inl ⟨rfl, ⟨by first | trivial | omega, by first | trivial | omega, by first | trivial | omega⟩⟩)⟩
                        · skip
                          obtain ⟨h596_0, h596_1, h596_2, h596_3, h596_4, h596_5, h596_6, h596_7, h596_8, h596_9, h596_10⟩ := h596
                          have BL602 : ∀ j : Nat, (j : Int) < 5 * dt 79 10 → dt597 82 j = dt 82 j := fun j hj => (h596_0 j (by omega)).trans (BL563 j hj)
                          have y603 := h596_0 ((5 * (dt 79 10))).toNat
                          have y604 := h596_0 ((5 * (dt 79 10)) + 1).toNat
                          have y605 := h596_0 ((5 * (dt 79 10)) + 2).toNat
                          have y606 := h596_0 ((5 * (dt 79 10)) + 3).toNat
                          have y607 := h596_0 ((5 * (dt 79 10)) + 4).toNat
                          have y608 := h596_1 ((5 * (dt 79 10)) + 2) (by omega)
                          refine go_if (k := 4) (p1 := 176) (p2 := 161) (L' := [some (.inr (.inr (some 79))), some (.inl ((dt 79 14) - 20))]) (st' := []) (w' := (SH, dt597)) (fun _ => rfl) (c_eq (a := (dt 79 14) - 20) (b := 2) ⟨by omega, by omega⟩ ⟨by omega, by omega⟩) (fun c609 => ?_) (fun c609 => ?_)
                          · exfalso; omega
                          · skip
                            refine go_if (k := 3) (p1 := 176) (p2 := 166) (L' := [some (.inr (.inr (some 79))), some (.inl ((dt 79 14) - 20))]) (st' := []) (w' := (SH, dt597)) (fun _ => rfl) (c_eq (a := (dt 79 14) - 20) (b := 3) ⟨by omega, by omega⟩ ⟨by omega, by omega⟩) (fun c610 => ?_) (fun c610 => ?_)
                            · exfalso; omega
                            · skip
                              refine go_if (k := 3) (p1 := 176) (p2 := 171) (L' := [some (.inr (.inr (some 79))), some (.inl ((dt 79 14) - 20))]) (st' := []) (w' := (SH, dt597)) (fun _ => rfl) (c_eq (a := (dt 79 14) - 20) (b := 4) ⟨by omega, by omega⟩ ⟨by omega, by omega⟩) (fun c611 => ?_) (fun c611 => ?_)
                              · skip
                                refine go_to (k := 3) (pc' := 179) (L' := [some (.inr (.inr (some 79))), some (.inl ((dt 79 14) - 20))]) (st' := [.inl 3, .inl 3, .inr (.inr (some 79))]) (w' := (SH, dt597)) (fun _ => rfl) ?_
                                refine go_call (Q' := _) rfl rfl rfl rfl rfl (sp_X6_argument L xs sio (d + 0) dt597 hI598  3 ⟨by omega, by omega⟩ 3 ⟨by omega, by omega⟩ (by first | trivial | omega) (by first | trivial | omega)) ?_
                                rintro _ _ ⟨dt613, rfl, hI614, hF615, h612⟩
                                refine ⟨rfl, ?_⟩
                                have hF616 : Fr [79, 82] dt dt613 := Fr_tr hF600 hF615 (by decide)
                                have E84617 : dt613 84 = dt 84 := (funext (hF615 84 (by decide))).trans E84601
                                rcases h612 with ⟨rfl, h612⟩ | ⟨rfl, h612⟩
                                · skip
                                  obtain ⟨h612_0, h612_1, h612_2, h612_3⟩ := h612
                                  refine go_ret (k := 3) (r := some (.inl 0)) (w1 := (SH, dt613)) (fun _ => rfl) ?_
                                  exact ⟨dt613, rfl, hI614, hF616, (Or.inl ⟨rfl, ⟨by first | trivial | omega, by first | trivial | omega, by first | trivial | omega⟩⟩)⟩
                                · skip
                                  obtain ⟨h612_0, h612_1, h612_2, h612_3, h612_4, h612_5, h612_6, h612_7, h612_8, h612_9, h612_10⟩ := h612
                                  have BL618 : ∀ j : Nat, (j : Int) < 5 * dt 79 10 → dt613 82 j = dt 82 j := fun j hj => (h612_0 j (by omega)).trans (BL602 j hj)
                                  have y619 := h612_0 ((5 * (dt 79 10))).toNat
                                  have y620 := h612_0 ((5 * (dt 79 10)) + 1).toNat
                                  have y621 := h612_0 ((5 * (dt 79 10)) + 2).toNat
                                  have y622 := h612_0 ((5 * (dt 79 10)) + 3).toNat
                                  have y623 := h612_0 ((5 * (dt 79 10)) + 4).toNat
                                  have y624 := h612_1 ((5 * (dt 79 10)) + 3) (by omega)
                                  refine go_if (k := 4) (p1 := 204) (p2 := 193) (L' := [some (.inr (.inr (some 79))), some (.inl ((dt 79 14) - 20))]) (st' := []) (w' := (SH, dt613)) (fun _ => rfl) (c_ne (a := (dt 79 14) - 20) (b := 6) ⟨by omega, by omega⟩ ⟨by omega, by omega⟩) (fun c625 => ?_) (fun c625 => ?_)
                                  · skip
                                    refine go_to (k := 2) (pc' := 208) (L' := [some (.inr (.inr (some 79))), some (.inl ((dt 79 14) - 20))]) (st' := [.inl 159, .inr (.inr (some 79))]) (w' := (SH, dt613)) (fun _ => rfl) ?_
                                    refine go_call (Q' := _) rfl rfl rfl rfl rfl (sp_X6_need0 L xs sio (d + 1) dt613 hI614  159 ⟨by omega, by omega⟩ (by first | trivial | omega)) ?_
                                    rintro _ _ ⟨dt627, rfl, hI628, hF629, h626⟩
                                    refine ⟨rfl, ?_⟩
                                    have hF630 : Fr [79, 82] dt dt627 := Fr_tr hF616 hF629 (by decide)
                                    have E84631 : dt627 84 = dt 84 := (funext (hF629 84 (by decide))).trans E84617
                                    rcases h626 with ⟨rfl, h626⟩ | ⟨rfl, h626⟩
                                    · skip
                                      obtain ⟨h626_0, h626_1, h626_2, h626_3⟩ := h626
                                      have BL632 : ∀ j : Nat, (j : Int) < 5 * dt 79 10 → dt627 82 j = dt 82 j := fun j hj => (hF629 82 (by decide) j).trans (BL618 j hj)
                                      have y633 : dt627 82 ((5 * (dt 79 10))).toNat = dt613 82 ((5 * (dt 79 10))).toNat := hF629 82 (by decide) _
                                      have y634 : dt627 82 ((5 * (dt 79 10)) + 1).toNat = dt613 82 ((5 * (dt 79 10)) + 1).toNat := hF629 82 (by decide) _
                                      have y635 : dt627 82 ((5 * (dt 79 10)) + 2).toNat = dt613 82 ((5 * (dt 79 10)) + 2).toNat := hF629 82 (by decide) _
                                      have y636 : dt627 82 ((5 * (dt 79 10)) + 3).toNat = dt613 82 ((5 * (dt 79 10)) + 3).toNat := hF629 82 (by decide) _
                                      have y637 : dt627 82 ((5 * (dt 79 10)) + 4).toNat = dt613 82 ((5 * (dt 79 10)) + 4).toNat := hF629 82 (by decide) _
                                      refine go_ret (k := 1) (r := some (.inl 0)) (w1 := (SH, dt627)) (fun _ => rfl) ?_
                                      exact ⟨dt627, rfl, hI628, hF630, (Or.inl ⟨rfl, ⟨by first | trivial | omega, by first | trivial | omega, by first | trivial | omega⟩⟩)⟩
                                    · skip
                                      obtain ⟨h626_0, h626_1, h626_2, h626_3, h626_4, h626_5, h626_6, h626_7, h626_8⟩ := h626
                                      have BL638 : ∀ j : Nat, (j : Int) < 5 * dt 79 10 → dt627 82 j = dt 82 j := fun j hj => (hF629 82 (by decide) j).trans (BL618 j hj)
                                      have y639 : dt627 82 ((5 * (dt 79 10))).toNat = dt613 82 ((5 * (dt 79 10))).toNat := hF629 82 (by decide) _
                                      have y640 : dt627 82 ((5 * (dt 79 10)) + 1).toNat = dt613 82 ((5 * (dt 79 10)) + 1).toNat := hF629 82 (by decide) _
                                      have y641 : dt627 82 ((5 * (dt 79 10)) + 2).toNat = dt613 82 ((5 * (dt 79 10)) + 2).toNat := hF629 82 (by decide) _
                                      have y642 : dt627 82 ((5 * (dt 79 10)) + 3).toNat = dt613 82 ((5 * (dt 79 10)) + 3).toNat := hF629 82 (by decide) _
                                      have y643 : dt627 82 ((5 * (dt 79 10)) + 4).toNat = dt613 82 ((5 * (dt 79 10)) + 4).toNat := hF629 82 (by decide) _
                                      refine go_ret (k := 1) (r := some (.inl 1)) (w1 := (SH, dt627)) (fun _ => rfl) ?_
                                      exact ⟨dt627, rfl, hI628, hF630, (Or.inr ⟨rfl, ⟨by first | trivial | omega, by exact BL638, by unfold aOK; omega, by first | trivial | omega, by first | trivial | omega, by exact (InvC_get (by assumption) 79 15 rfl rfl).2, by first | trivial | omega, by first | trivial | omega, by first | trivial | omega, by first | trivial | omega, by first | trivial | omega⟩⟩)⟩
                                  · exfalso; omega
                              · skip
                                refine go_if (k := 3) (p1 := 187) (p2 := 176) (L' := [some (.inr (.inr (some 79))), some (.inl ((dt 79 14) - 20))]) (st' := []) (w' := (SH, dt597)) (fun _ => rfl) (c_ne (a := (dt 79 14) - 20) (b := 5) ⟨by omega, by omega⟩ ⟨by omega, by omega⟩) (fun c644 => ?_) (fun c644 => ?_)
                                · skip
                                  refine go_if (k := 3) (p1 := 204) (p2 := 193) (L' := [some (.inr (.inr (some 79))), some (.inl ((dt 79 14) - 20))]) (st' := []) (w' := (SH, dt597)) (fun _ => rfl) (c_ne (a := (dt 79 14) - 20) (b := 6) ⟨by omega, by omega⟩ ⟨by omega, by omega⟩) (fun c645 => ?_) (fun c645 => ?_)
                                  · skip
                                    refine go_to (k := 2) (pc' := 208) (L' := [some (.inr (.inr (some 79))), some (.inl ((dt 79 14) - 20))]) (st' := [.inl 159, .inr (.inr (some 79))]) (w' := (SH, dt597)) (fun _ => rfl) ?_
                                    refine go_call (Q' := _) rfl rfl rfl rfl rfl (sp_X6_need0 L xs sio (d + 1) dt597 hI598  159 ⟨by omega, by omega⟩ (by first | trivial | omega)) ?_
                                    rintro _ _ ⟨dt647, rfl, hI648, hF649, h646⟩
                                    refine ⟨rfl, ?_⟩
                                    have hF650 : Fr [79, 82] dt dt647 := Fr_tr hF600 hF649 (by decide)
                                    have E84651 : dt647 84 = dt 84 := (funext (hF649 84 (by decide))).trans E84601
                                    rcases h646 with ⟨rfl, h646⟩ | ⟨rfl, h646⟩
                                    · skip
                                      obtain ⟨h646_0, h646_1, h646_2, h646_3⟩ := h646
                                      have BL652 : ∀ j : Nat, (j : Int) < 5 * dt 79 10 → dt647 82 j = dt 82 j := fun j hj => (hF649 82 (by decide) j).trans (BL602 j hj)
                                      have y653 : dt647 82 ((5 * (dt 79 10))).toNat = dt597 82 ((5 * (dt 79 10))).toNat := hF649 82 (by decide) _
                                      have y654 : dt647 82 ((5 * (dt 79 10)) + 1).toNat = dt597 82 ((5 * (dt 79 10)) + 1).toNat := hF649 82 (by decide) _
                                      have y655 : dt647 82 ((5 * (dt 79 10)) + 2).toNat = dt597 82 ((5 * (dt 79 10)) + 2).toNat := hF649 82 (by decide) _
                                      have y656 : dt647 82 ((5 * (dt 79 10)) + 3).toNat = dt597 82 ((5 * (dt 79 10)) + 3).toNat := hF649 82 (by decide) _
                                      have y657 : dt647 82 ((5 * (dt 79 10)) + 4).toNat = dt597 82 ((5 * (dt 79 10)) + 4).toNat := hF649 82 (by decide) _
                                      refine go_ret (k := 1) (r := some (.inl 0)) (w1 := (SH, dt647)) (fun _ => rfl) ?_
                                      exact ⟨dt647, rfl, hI648, hF650, (Or.inl ⟨rfl, ⟨by first | trivial | omega, by first | trivial | omega, by first | trivial | omega⟩⟩)⟩
                                    · skip
                                      obtain ⟨h646_0, h646_1, h646_2, h646_3, h646_4, h646_5, h646_6, h646_7, h646_8⟩ := h646
                                      have BL658 : ∀ j : Nat, (j : Int) < 5 * dt 79 10 → dt647 82 j = dt 82 j := fun j hj => (hF649 82 (by decide) j).trans (BL602 j hj)
                                      have y659 : dt647 82 ((5 * (dt 79 10))).toNat = dt597 82 ((5 * (dt 79 10))).toNat := hF649 82 (by decide) _
                                      have y660 : dt647 82 ((5 * (dt 79 10)) + 1).toNat = dt597 82 ((5 * (dt 79 10)) + 1).toNat := hF649 82 (by decide) _
                                      have y661 : dt647 82 ((5 * (dt 79 10)) + 2).toNat = dt597 82 ((5 * (dt 79 10)) + 2).toNat := hF649 82 (by decide) _
                                      have y662 : dt647 82 ((5 * (dt 79 10)) + 3).toNat = dt597 82 ((5 * (dt 79 10)) + 3).toNat := hF649 82 (by decide) _
                                      have y663 : dt647 82 ((5 * (dt 79 10)) + 4).toNat = dt597 82 ((5 * (dt 79 10)) + 4).toNat := hF649 82 (by decide) _
                                      refine go_ret (k := 1) (r := some (.inl 1)) (w1 := (SH, dt647)) (fun _ => rfl) ?_
                                      exact ⟨dt647, rfl, hI648, hF650, (Or.inr ⟨rfl, ⟨by first | trivial | omega, by exact BL658, by unfold aOK; omega, by first | trivial | omega, by first | trivial | omega, by exact (InvC_get (by assumption) 79 15 rfl rfl).2, by first | trivial | omega, by first | trivial | omega, by first | trivial | omega, by first | trivial | omega, by first | trivial | omega⟩⟩)⟩
                                  · exfalso; omega
                                · exfalso; omega
              · skip
                refine go_to (k := 2) (pc' := 115) (L' := [some (.inr (.inr (some 79))), some (.inl ((dt 79 14) - 20))]) (st' := [.inl 2, .inr (.inr (some 79))]) (w' := (SH, dt42)) (fun _ => rfl) ?_
                refine go_call (Q' := _) rfl rfl rfl rfl rfl (sp_X6_bad L xs sio (d + 8) dt42 hI43  2 ⟨by omega, by omega⟩ ) ?_
                rintro _ _ ⟨dt665, rfl, hI666, hF667, h664⟩
                refine ⟨rfl, ?_⟩
                have hF668 : Fr [79, 82] dt dt665 := Fr_tr hF45 hF667 (by decide)
                have E84669 : dt665 84 = dt 84 := (funext (hF667 84 (by decide))).trans E8446
                rcases h664 with ⟨rfl, h664⟩
                obtain ⟨h664_0, h664_1, h664_2, h664_3, h664_4, h664_5⟩ := h664
                have BL670 : ∀ j : Nat, (j : Int) < 5 * dt 79 10 → dt665 82 j = dt 82 j := fun j hj => (hF667 82 (by decide) j).trans (BL47 j hj)
                have y671 : dt665 82 ((5 * (dt 79 10))).toNat = dt42 82 ((5 * (dt 79 10))).toNat := hF667 82 (by decide) _
                have y672 : dt665 82 ((5 * (dt 79 10)) + 1).toNat = dt42 82 ((5 * (dt 79 10)) + 1).toNat := hF667 82 (by decide) _
                have y673 : dt665 82 ((5 * (dt 79 10)) + 2).toNat = dt42 82 ((5 * (dt 79 10)) + 2).toNat := hF667 82 (by decide) _
                have y674 : dt665 82 ((5 * (dt 79 10)) + 3).toNat = dt42 82 ((5 * (dt 79 10)) + 3).toNat := hF667 82 (by decide) _
                have y675 : dt665 82 ((5 * (dt 79 10)) + 4).toNat = dt42 82 ((5 * (dt 79 10)) + 4).toNat := hF667 82 (by decide) _
                refine go_ret (k := 1) (r := some (.inl 0)) (w1 := (SH, dt665)) (fun _ => rfl) ?_
                exact ⟨dt665, rfl, hI666, hF668, (Or.inl ⟨rfl, ⟨by first | trivial | omega, by first | trivial | omega, by first | trivial | omega⟩⟩)⟩
      · skip
        refine go_to (k := 2) (pc' := 72) (L' := [some (.inr (.inr (some 79))), some (.inl ((dt 79 14) - 20))]) (st' := [.inl 1, .inl 1, .inr (.inr (some 79))]) (w' := (SH, (u2 dt8 82 ((5 * (dt8 79 10)).toNat) ((dt 79 14) - 20)))) (fun _ => rfl) ?_
        refine go_call (Q' := _) rfl rfl rfl rfl rfl (sp_X6_argument L xs sio (d + 0) (u2 dt8 82 ((5 * (dt8 79 10)).toNat) ((dt 79 14) - 20)) hI20  1 ⟨by omega, by omega⟩ 1 ⟨by omega, by omega⟩ (by first | trivial | omega) (by first | trivial | omega)) ?_
        rintro _ _ ⟨dt677, rfl, hI678, hF679, h676⟩
        refine ⟨rfl, ?_⟩
        have hF680 : Fr [79, 82] dt dt677 := Fr_tr hF21 hF679 (by decide)
        have E84681 : dt677 84 = dt 84 := (funext (hF679 84 (by decide))).trans E8432
        rcases h676 with ⟨rfl, h676⟩ | ⟨rfl, h676⟩
        · skip
          obtain ⟨h676_0, h676_1, h676_2, h676_3⟩ := h676
          refine go_ret (k := 3) (r := some (.inl 0)) (w1 := (SH, dt677)) (fun _ => rfl) ?_
          exact ⟨dt677, rfl, hI678, hF680, (Or.inl ⟨rfl, ⟨by first | trivial | omega, by first | trivial | omega, by first | trivial | omega⟩⟩)⟩
        · skip
          obtain ⟨h676_0, h676_1, h676_2, h676_3, h676_4, h676_5, h676_6, h676_7, h676_8, h676_9, h676_10⟩ := h676
          have BL682 : ∀ j : Nat, (j : Int) < 5 * dt 79 10 → dt677 82 j = dt 82 j := fun j hj => (h676_0 j (by omega)).trans (BL33 j hj)
          have y683 := h676_0 ((5 * (dt 79 10))).toNat
          have y684 := h676_0 ((5 * (dt 79 10)) + 1).toNat
          have y685 := h676_0 ((5 * (dt 79 10)) + 2).toNat
          have y686 := h676_0 ((5 * (dt 79 10)) + 3).toNat
          have y687 := h676_0 ((5 * (dt 79 10)) + 4).toNat
          have y688 := h676_1 ((5 * (dt 79 10)) + 1) (by omega)
          refine go_if (k := 4) (p1 := 130) (p2 := 85) (L' := [some (.inr (.inr (some 79))), some (.inl ((dt 79 14) - 20))]) (st' := []) (w' := (SH, dt677)) (fun _ => rfl) (c_ne (a := (dt 79 14) - 20) (b := 4) ⟨by omega, by omega⟩ ⟨by omega, by omega⟩) (fun c689 => ?_) (fun c689 => ?_)
          · skip
            refine go_if (k := 3) (p1 := 145) (p2 := 135) (L' := [some (.inr (.inr (some 79))), some (.inl ((dt 79 14) - 20))]) (st' := []) (w' := (SH, dt677)) (fun _ => rfl) (c_eq (a := (dt 79 14) - 20) (b := 2) ⟨by omega, by omega⟩ ⟨by omega, by omega⟩) (fun c690 => ?_) (fun c690 => ?_)
            · exfalso; omega
            · skip
              refine go_if (k := 3) (p1 := 145) (p2 := 140) (L' := [some (.inr (.inr (some 79))), some (.inl ((dt 79 14) - 20))]) (st' := []) (w' := (SH, dt677)) (fun _ => rfl) (c_eq (a := (dt 79 14) - 20) (b := 3) ⟨by omega, by omega⟩ ⟨by omega, by omega⟩) (fun c691 => ?_) (fun c691 => ?_)
              · exfalso; omega
              · skip
                refine go_if (k := 3) (p1 := 156) (p2 := 145) (L' := [some (.inr (.inr (some 79))), some (.inl ((dt 79 14) - 20))]) (st' := []) (w' := (SH, dt677)) (fun _ => rfl) (c_ne (a := (dt 79 14) - 20) (b := 4) ⟨by omega, by omega⟩ ⟨by omega, by omega⟩) (fun c692 => ?_) (fun c692 => ?_)
                · skip
                  refine go_if (k := 3) (p1 := 176) (p2 := 161) (L' := [some (.inr (.inr (some 79))), some (.inl ((dt 79 14) - 20))]) (st' := []) (w' := (SH, dt677)) (fun _ => rfl) (c_eq (a := (dt 79 14) - 20) (b := 2) ⟨by omega, by omega⟩ ⟨by omega, by omega⟩) (fun c693 => ?_) (fun c693 => ?_)
                  · exfalso; omega
                  · skip
                    refine go_if (k := 3) (p1 := 176) (p2 := 166) (L' := [some (.inr (.inr (some 79))), some (.inl ((dt 79 14) - 20))]) (st' := []) (w' := (SH, dt677)) (fun _ => rfl) (c_eq (a := (dt 79 14) - 20) (b := 3) ⟨by omega, by omega⟩ ⟨by omega, by omega⟩) (fun c694 => ?_) (fun c694 => ?_)
                    · exfalso; omega
                    · skip
                      refine go_if (k := 3) (p1 := 176) (p2 := 171) (L' := [some (.inr (.inr (some 79))), some (.inl ((dt 79 14) - 20))]) (st' := []) (w' := (SH, dt677)) (fun _ => rfl) (c_eq (a := (dt 79 14) - 20) (b := 4) ⟨by omega, by omega⟩ ⟨by omega, by omega⟩) (fun c695 => ?_) (fun c695 => ?_)
                      · exfalso; omega
                      · skip
                        refine go_if (k := 3) (p1 := 187) (p2 := 176) (L' := [some (.inr (.inr (some 79))), some (.inl ((dt 79 14) - 20))]) (st' := []) (w' := (SH, dt677)) (fun _ => rfl) (c_ne (a := (dt 79 14) - 20) (b := 5) ⟨by omega, by omega⟩ ⟨by omega, by omega⟩) (fun c696 => ?_) (fun c696 => ?_)
                        · skip
                          refine go_if (k := 3) (p1 := 204) (p2 := 193) (L' := [some (.inr (.inr (some 79))), some (.inl ((dt 79 14) - 20))]) (st' := []) (w' := (SH, dt677)) (fun _ => rfl) (c_ne (a := (dt 79 14) - 20) (b := 6) ⟨by omega, by omega⟩ ⟨by omega, by omega⟩) (fun c697 => ?_) (fun c697 => ?_)
                          · skip
                            refine go_to (k := 2) (pc' := 208) (L' := [some (.inr (.inr (some 79))), some (.inl ((dt 79 14) - 20))]) (st' := [.inl 159, .inr (.inr (some 79))]) (w' := (SH, dt677)) (fun _ => rfl) ?_
                            refine go_call (Q' := _) rfl rfl rfl rfl rfl (sp_X6_need0 L xs sio (d + 1) dt677 hI678  159 ⟨by omega, by omega⟩ (by first | trivial | omega)) ?_
                            rintro _ _ ⟨dt699, rfl, hI700, hF701, h698⟩
                            refine ⟨rfl, ?_⟩
                            have hF702 : Fr [79, 82] dt dt699 := Fr_tr hF680 hF701 (by decide)
                            have E84703 : dt699 84 = dt 84 := (funext (hF701 84 (by decide))).trans E84681
                            rcases h698 with ⟨rfl, h698⟩ | ⟨rfl, h698⟩
                            · skip
                              obtain ⟨h698_0, h698_1, h698_2, h698_3⟩ := h698
                              have BL704 : ∀ j : Nat, (j : Int) < 5 * dt 79 10 → dt699 82 j = dt 82 j := fun j hj => (hF701 82 (by decide) j).trans (BL682 j hj)
                              have y705 : dt699 82 ((5 * (dt 79 10))).toNat = dt677 82 ((5 * (dt 79 10))).toNat := hF701 82 (by decide) _
                              have y706 : dt699 82 ((5 * (dt 79 10)) + 1).toNat = dt677 82 ((5 * (dt 79 10)) + 1).toNat := hF701 82 (by decide) _
                              have y707 : dt699 82 ((5 * (dt 79 10)) + 2).toNat = dt677 82 ((5 * (dt 79 10)) + 2).toNat := hF701 82 (by decide) _
                              have y708 : dt699 82 ((5 * (dt 79 10)) + 3).toNat = dt677 82 ((5 * (dt 79 10)) + 3).toNat := hF701 82 (by decide) _
                              have y709 : dt699 82 ((5 * (dt 79 10)) + 4).toNat = dt677 82 ((5 * (dt 79 10)) + 4).toNat := hF701 82 (by decide) _
                              refine go_ret (k := 1) (r := some (.inl 0)) (w1 := (SH, dt699)) (fun _ => rfl) ?_
                              exact ⟨dt699, rfl, hI700, hF702, (Or.inl ⟨rfl, ⟨by first | trivial | omega, by first | trivial | omega, by first | trivial | omega⟩⟩)⟩
                            · skip
                              obtain ⟨h698_0, h698_1, h698_2, h698_3, h698_4, h698_5, h698_6, h698_7, h698_8⟩ := h698
                              have BL710 : ∀ j : Nat, (j : Int) < 5 * dt 79 10 → dt699 82 j = dt 82 j := fun j hj => (hF701 82 (by decide) j).trans (BL682 j hj)
                              have y711 : dt699 82 ((5 * (dt 79 10))).toNat = dt677 82 ((5 * (dt 79 10))).toNat := hF701 82 (by decide) _
                              have y712 : dt699 82 ((5 * (dt 79 10)) + 1).toNat = dt677 82 ((5 * (dt 79 10)) + 1).toNat := hF701 82 (by decide) _
                              have y713 : dt699 82 ((5 * (dt 79 10)) + 2).toNat = dt677 82 ((5 * (dt 79 10)) + 2).toNat := hF701 82 (by decide) _
                              have y714 : dt699 82 ((5 * (dt 79 10)) + 3).toNat = dt677 82 ((5 * (dt 79 10)) + 3).toNat := hF701 82 (by decide) _
                              have y715 : dt699 82 ((5 * (dt 79 10)) + 4).toNat = dt677 82 ((5 * (dt 79 10)) + 4).toNat := hF701 82 (by decide) _
                              refine go_ret (k := 1) (r := some (.inl 1)) (w1 := (SH, dt699)) (fun _ => rfl) ?_
                              exact ⟨dt699, rfl, hI700, hF702, (Or.inr ⟨rfl, ⟨by first | trivial | omega, by exact BL710, by unfold aOK; omega, by first | trivial | omega, by first | trivial | omega, by exact (InvC_get (by assumption) 79 15 rfl rfl).2, by first | trivial | omega, by first | trivial | omega, by first | trivial | omega, by first | trivial | omega, by first | trivial | omega⟩⟩)⟩
                          · exfalso; omega
                        · exfalso; omega
                · exfalso; omega
          · exfalso; omega
    · skip
      refine go_to (k := 2) (pc' := 31) (L' := [some (.inr (.inr (some 79))), none]) (st' := [.inl 3, .inr (.inr (some 79))]) (w' := (SH, dt)) (fun _ => rfl) ?_
      refine go_call (Q' := _) rfl rfl rfl rfl rfl (sp_X6_bad L xs sio (d + 8) dt hI  3 ⟨by omega, by omega⟩ ) ?_
      rintro _ _ ⟨dt717, rfl, hI718, hF719, h716⟩
      refine ⟨rfl, ?_⟩
      have hF720 : Fr [79, 82] dt dt717 := Fr_tr hF hF719 (by decide)
      have E84721 : dt717 84 = dt 84 := funext (hF719 84 (by decide))
      rcases h716 with ⟨rfl, h716⟩
      obtain ⟨h716_0, h716_1, h716_2, h716_3, h716_4, h716_5⟩ := h716
      have BL722 : ∀ j : Nat, (j : Int) < 5 * dt 79 10 → dt717 82 j = dt 82 j := fun j hj => (hF719 82 (by decide) j).trans ((fun _ _ => rfl) j hj)
      have y723 : dt717 82 ((5 * (dt 79 10))).toNat = dt 82 ((5 * (dt 79 10))).toNat := hF719 82 (by decide) _
      have y724 : dt717 82 ((5 * (dt 79 10)) + 1).toNat = dt 82 ((5 * (dt 79 10)) + 1).toNat := hF719 82 (by decide) _
      have y725 : dt717 82 ((5 * (dt 79 10)) + 2).toNat = dt 82 ((5 * (dt 79 10)) + 2).toNat := hF719 82 (by decide) _
      have y726 : dt717 82 ((5 * (dt 79 10)) + 3).toNat = dt 82 ((5 * (dt 79 10)) + 3).toNat := hF719 82 (by decide) _
      have y727 : dt717 82 ((5 * (dt 79 10)) + 4).toNat = dt 82 ((5 * (dt 79 10)) + 4).toNat := hF719 82 (by decide) _
      refine go_ret (k := 1) (r := some (.inl 0)) (w1 := (SH, dt717)) (fun _ => rfl) ?_
      exact ⟨dt717, rfl, hI718, hF720, (Or.inl ⟨rfl, ⟨by first | trivial | omega, by first | trivial | omega, by first | trivial | omega⟩⟩)⟩
  · skip
    refine go_to (k := 3) (pc' := 16) (L' := [some (.inr (.inr (some 79))), none]) (st' := [.inl 1, .inr (.inr (some 79))]) (w' := (SH, dt)) (fun _ => rfl) ?_
    refine go_call (Q' := _) rfl rfl rfl rfl rfl (sp_X6_bad L xs sio (d + 8) dt hI  1 ⟨by omega, by omega⟩ ) ?_
    rintro _ _ ⟨dt729, rfl, hI730, hF731, h728⟩
    refine ⟨rfl, ?_⟩
    have hF732 : Fr [79, 82] dt dt729 := Fr_tr hF hF731 (by decide)
    have E84733 : dt729 84 = dt 84 := funext (hF731 84 (by decide))
    rcases h728 with ⟨rfl, h728⟩
    obtain ⟨h728_0, h728_1, h728_2, h728_3, h728_4, h728_5⟩ := h728
    have BL734 : ∀ j : Nat, (j : Int) < 5 * dt 79 10 → dt729 82 j = dt 82 j := fun j hj => (hF731 82 (by decide) j).trans ((fun _ _ => rfl) j hj)
    have y735 : dt729 82 ((5 * (dt 79 10))).toNat = dt 82 ((5 * (dt 79 10))).toNat := hF731 82 (by decide) _
    have y736 : dt729 82 ((5 * (dt 79 10)) + 1).toNat = dt 82 ((5 * (dt 79 10)) + 1).toNat := hF731 82 (by decide) _
    have y737 : dt729 82 ((5 * (dt 79 10)) + 2).toNat = dt 82 ((5 * (dt 79 10)) + 2).toNat := hF731 82 (by decide) _
    have y738 : dt729 82 ((5 * (dt 79 10)) + 3).toNat = dt 82 ((5 * (dt 79 10)) + 3).toNat := hF731 82 (by decide) _
    have y739 : dt729 82 ((5 * (dt 79 10)) + 4).toNat = dt 82 ((5 * (dt 79 10)) + 4).toNat := hF731 82 (by decide) _
    refine go_ret (k := 1) (r := some (.inl 0)) (w1 := (SH, dt729)) (fun _ => rfl) ?_
    exact ⟨dt729, rfl, hI730, hF732, (Or.inl ⟨rfl, ⟨by first | trivial | omega, by first | trivial | omega, by first | trivial | omega⟩⟩)⟩
set_option maxRecDepth 20000 in
theorem sp_X6_aLine (L : Nat) (xs : Nat → Int32) (sio : Option Nat) (d : Nat) (dt : Nat → Nat → Int) (hI : InvC dt)   (h_p0 : (¬ dt 79 14 = 0 → dt 79 15 + 1 ≤ dt 79 13) ∧ dt 79 13 ≤ 500) (h_p1 : dt 79 11 ≤ dt 79 15) (h_p2 : dt 79 10 ≤ 16) : GO (am_XX L xs sio) (d + 37) 173 0 [some (.inr (.inr (some 79))), none] [] (SH, dt) (fun r w2 => ∃ dt2 : Nat → Nat → Int, w2 = (SH, dt2) ∧ InvC dt2 ∧ Fr [79, 83, 84] dt dt2 ∧ ((r = some (.inl 0) ∧ (dt2 79 2 = dt 79 2) ∧ (dt2 79 9 = dt 79 9) ∧ (dt2 79 12 = dt 79 12)) ∨ (r = some (.inl 1) ∧ (dt 79 10 ≤ 15) ∧ (∀ j : Nat, (j : Int) < 4 * dt 79 10 → dt2 83 j = dt 83 j) ∧ (LR (dt2 83 ((4 * (dt 79 10)) + 1).toNat) (dt2 83 ((4 * (dt 79 10)) + 2).toNat) (dt2 83 ((4 * (dt 79 10)) + 3).toNat) (dt2 79 11) (dt2 84)) ∧ (AGR (dt2 84) (dt 84) (dt 79 11)) ∧ (dt 79 11 ≤ dt2 79 11) ∧ (dt 79 15 + dt2 79 11 ≤ dt2 79 15 + dt 79 11) ∧ (dt 79 15 + 1 ≤ dt2 79 15) ∧ ((¬ dt2 79 14 = 0 → dt2 79 15 + 1 ≤ dt2 79 13) ∧ dt2 79 13 ≤ 500) ∧ (dt2 79 15 ≤ 500) ∧ (dt2 79 2 = dt 79 2) ∧ (dt2 79 9 = dt 79 9) ∧ (dt2 79 10 = dt 79 10) ∧ (dt2 79 12 = dt 79 12)))) := by
  have hF : Fr [79, 83, 84] dt dt := Fr_refl
  have r1 : 0 ≤ dt 79 15 ∧ dt 79 15 ≤ 500 := InvC_get hI 79 15 rfl rfl
  have r2 : 0 ≤ dt 79 11 ∧ dt 79 11 ≤ 510 := InvC_get hI 79 11 rfl rfl
  have r3 : 0 ≤ dt 79 10 ∧ dt 79 10 ≤ 24 := InvC_get hI 79 10 rfl rfl
  have r4 : (-2147483648) ≤ dt 79 14 ∧ dt 79 14 ≤ 2147483647 := InvC_get hI 79 14 rfl rfl
  refine go_if (k := 4) (p1 := 24) (p2 := 9) (L' := [some (.inr (.inr (some 79))), none]) (st' := []) (w' := (SH, dt)) (fun _ => rfl) (c_eq (a := dt 79 14) (b := 7) ⟨by omega, by omega⟩ ⟨by omega, by omega⟩) (fun c5 => ?_) (fun c5 => ?_)
  · skip
    refine go_if (k := 4) (p1 := 39) (p2 := 33) (L' := [some (.inr (.inr (some 79))), none]) (st' := []) (w' := (SH, dt)) (fun _ => rfl) (c_ne (a := dt 79 10) (b := 16) ⟨by omega, by omega⟩ ⟨by omega, by omega⟩) (fun c6 => ?_) (fun c6 => ?_)
    · skip
      refine go_if (k := 4) (p1 := 52) (p2 := 48) (L' := [some (.inr (.inr (some 79))), none]) (st' := []) (w' := (SH, dt)) (fun _ => rfl) (c_ne (a := dt 79 14) (b := 7) ⟨by omega, by omega⟩ ⟨by omega, by omega⟩) (fun c7 => ?_) (fun c7 => ?_)
      · skip
        refine go_to (k := 4) (pc' := 56) (L' := [some (.inr (.inr (some 79))), some (.inl 0)]) (st' := [.inl 0, .inr (.inr (some 79))]) (w' := (SH, dt)) (fun _ => rfl) ?_
        have hI8 : InvC (u2 dt 79 20 0) := InvC_u2 hI (lo := 0) (hi := 8) rfl rfl rfl (by omega) (by omega)
        have hF9 : Fr [79, 83, 84] dt (u2 dt 79 20 0) := Fr_u2 hF (by decide)
        have w10 : (u2 dt 79 20 0) 79 2 = dt 79 2 := rfl
        have w11 : (u2 dt 79 20 0) 79 9 = dt 79 9 := rfl
        have w12 : (u2 dt 79 20 0) 79 10 = dt 79 10 := rfl
        have w13 : (u2 dt 79 20 0) 79 11 = dt 79 11 := rfl
        have w14 : (u2 dt 79 20 0) 79 12 = dt 79 12 := rfl
        have w15 : (u2 dt 79 20 0) 79 13 = dt 79 13 := rfl
        have w16 : (u2 dt 79 20 0) 79 14 = dt 79 14 := rfl
        have w17 : (u2 dt 79 20 0) 79 15 = dt 79 15 := rfl
        have w18 : (u2 dt 79 20 0) 79 16 = dt 79 16 := rfl
        have w19 : (u2 dt 79 20 0) 79 20 = 0 := rfl
        have E8420 : (u2 dt 79 20 0) 84 = dt 84 := funext fun _ => u2_ne (by omega)
        have BL21 : ∀ j : Nat, (j : Int) < 4 * dt 79 10 → (u2 dt 79 20 0) 83 j = dt 83 j := fun j hj => (u2_ne (by omega)).trans ((fun _ _ => rfl) j hj)
        have y22 : (u2 dt 79 20 0) 83 ((4 * (dt 79 10))).toNat = dt 83 ((4 * (dt 79 10))).toNat := u2_ne (by omega)
        have y23 : (u2 dt 79 20 0) 83 ((4 * (dt 79 10)) + 1).toNat = dt 83 ((4 * (dt 79 10)) + 1).toNat := u2_ne (by omega)
        have y24 : (u2 dt 79 20 0) 83 ((4 * (dt 79 10)) + 2).toNat = dt 83 ((4 * (dt 79 10)) + 2).toNat := u2_ne (by omega)
        have y25 : (u2 dt 79 20 0) 83 ((4 * (dt 79 10)) + 3).toNat = dt 83 ((4 * (dt 79 10)) + 3).toNat := u2_ne (by omega)
        refine go_smp (L' := [some (.inr (.inr (some 79))), some (.inl 0)]) (st' := []) (w' := (SH, (u2 dt 79 20 0))) rfl rfl (s_pf rfl rfl rfl rfl ⟨by omega, by omega⟩) ?_
        refine go_to (k := 1) (pc' := 60) (L' := [some (.inr (.inr (some 79))), some (.inl 0)]) (st' := [.inr (.inr (some 79))]) (w' := (SH, (u2 dt 79 20 0))) (fun _ => rfl) ?_
        refine go_call (Q' := _) rfl rfl rfl rfl rfl (sp_X6_next0 L xs sio (d + 30) (u2 dt 79 20 0) hI8   (by first | trivial | omega)) ?_
        rintro _ _ ⟨dt27, rfl, hI28, hF29, h26⟩
        refine ⟨rfl, ?_⟩
        have hF30 : Fr [79, 83, 84] dt dt27 := Fr_tr hF9 hF29 (by decide)
        have E8431 : dt27 84 = dt 84 := (funext (hF29 84 (by decide))).trans E8420
        rcases h26 with ⟨rfl, h26⟩
        obtain ⟨h26_0, h26_1, h26_2, h26_3, h26_4, h26_5, h26_6, h26_7, h26_8⟩ := h26
        have BL32 : ∀ j : Nat, (j : Int) < 4 * dt 79 10 → dt27 83 j = dt 83 j := fun j hj => (hF29 83 (by decide) j).trans (BL21 j hj)
        have y33 : dt27 83 ((4 * (dt 79 10))).toNat = (u2 dt 79 20 0) 83 ((4 * (dt 79 10))).toNat := hF29 83 (by decide) _
        have y34 : dt27 83 ((4 * (dt 79 10)) + 1).toNat = (u2 dt 79 20 0) 83 ((4 * (dt 79 10)) + 1).toNat := hF29 83 (by decide) _
        have y35 : dt27 83 ((4 * (dt 79 10)) + 2).toNat = (u2 dt 79 20 0) 83 ((4 * (dt 79 10)) + 2).toNat := hF29 83 (by decide) _
        have y36 : dt27 83 ((4 * (dt 79 10)) + 3).toNat = (u2 dt 79 20 0) 83 ((4 * (dt 79 10)) + 3).toNat := hF29 83 (by decide) _
        have r37 : 0 ≤ dt27 79 10 ∧ dt27 79 10 ≤ 24 := InvC_get hI28 79 10 rfl rfl
        refine go_to (k := 9) (pc' := 86) (L' := [some (.inr (.inr (some 79))), some (.inl 0)]) (st' := [.inl 8, .inl (4 * (dt27 79 10)), .inr (.inr (some 83))]) (w' := (SH, dt27)) (fun _ => rfl) ?_
        have hI38 : InvC (u2 dt27 83 ((4 * (dt27 79 10)).toNat) 8) := InvC_u2 hI28 (lo := -2147483648) (hi := 2147483647) rfl rfl rfl (by omega) (by omega)
        have hF39 : Fr [79, 83, 84] dt (u2 dt27 83 ((4 * (dt27 79 10)).toNat) 8) := Fr_u2 hF30 (by decide)
        have w40 : (u2 dt27 83 ((4 * (dt27 79 10)).toNat) 8) 79 2 = dt27 79 2 := rfl
        have w41 : (u2 dt27 83 ((4 * (dt27 79 10)).toNat) 8) 79 9 = dt27 79 9 := rfl
        have w42 : (u2 dt27 83 ((4 * (dt27 79 10)).toNat) 8) 79 10 = dt27 79 10 := rfl
        have w43 : (u2 dt27 83 ((4 * (dt27 79 10)).toNat) 8) 79 11 = dt27 79 11 := rfl
        have w44 : (u2 dt27 83 ((4 * (dt27 79 10)).toNat) 8) 79 12 = dt27 79 12 := rfl
        have w45 : (u2 dt27 83 ((4 * (dt27 79 10)).toNat) 8) 79 13 = dt27 79 13 := rfl
        have w46 : (u2 dt27 83 ((4 * (dt27 79 10)).toNat) 8) 79 14 = dt27 79 14 := rfl
        have w47 : (u2 dt27 83 ((4 * (dt27 79 10)).toNat) 8) 79 15 = dt27 79 15 := rfl
        have w48 : (u2 dt27 83 ((4 * (dt27 79 10)).toNat) 8) 79 16 = dt27 79 16 := rfl
        have w49 : (u2 dt27 83 ((4 * (dt27 79 10)).toNat) 8) 79 20 = dt27 79 20 := rfl
        have E8450 : (u2 dt27 83 ((4 * (dt27 79 10)).toNat) 8) 84 = dt 84 := (funext fun _ => u2_ne (by omega)).trans E8431
        have ex52 : ((4 * (dt 79 10))).toNat = (4 * (dt27 79 10)).toNat := by omega
        have BL51 : ∀ j : Nat, (j : Int) < 4 * dt 79 10 → (u2 dt27 83 ((4 * (dt27 79 10)).toNat) 8) 83 j = dt 83 j := fun j hj => (u2_ne (by omega)).trans (BL32 j hj)
        have y53 : (u2 dt27 83 ((4 * (dt27 79 10)).toNat) 8) 83 ((4 * (dt 79 10))).toNat = 8 := by rw [ex52]; exact u2_eq
        have y54 : (u2 dt27 83 ((4 * (dt27 79 10)).toNat) 8) 83 ((4 * (dt 79 10)) + 1).toNat = dt27 83 ((4 * (dt 79 10)) + 1).toNat := u2_ne (by omega)
        have y55 : (u2 dt27 83 ((4 * (dt27 79 10)).toNat) 8) 83 ((4 * (dt 79 10)) + 2).toNat = dt27 83 ((4 * (dt 79 10)) + 2).toNat := u2_ne (by omega)
        have y56 : (u2 dt27 83 ((4 * (dt27 79 10)).toNat) 8) 83 ((4 * (dt 79 10)) + 3).toNat = dt27 83 ((4 * (dt 79 10)) + 3).toNat := u2_ne (by omega)
        refine go_smp (L' := [some (.inr (.inr (some 79))), some (.inl 0)]) (st' := []) (w' := (SH, (u2 dt27 83 ((4 * (dt27 79 10)).toNat) 8))) rfl rfl (s_iast (n := 64) rfl ⟨by omega, by omega⟩ ⟨by omega, by omega⟩) ?_
        have r57 : 0 ≤ dt27 79 11 ∧ dt27 79 11 ≤ 510 := InvC_get hI28 79 11 rfl rfl
        refine go_to (k := 12) (pc' := 119) (L' := [some (.inr (.inr (some 79))), some (.inl 0)]) (st' := [.inl (dt27 79 11), .inl ((4 * (dt27 79 10)) + 1), .inr (.inr (some 83))]) (w' := (SH, (u2 dt27 83 ((4 * (dt27 79 10)).toNat) 8))) (fun _ => rfl) ?_
        have hI58 : InvC (u2 (u2 dt27 83 ((4 * (dt27 79 10)).toNat) 8) 83 (((4 * (dt27 79 10)) + 1).toNat) (dt27 79 11)) := InvC_u2 hI38 (lo := -2147483648) (hi := 2147483647) rfl rfl rfl (by omega) (by omega)
        have hF59 : Fr [79, 83, 84] dt (u2 (u2 dt27 83 ((4 * (dt27 79 10)).toNat) 8) 83 (((4 * (dt27 79 10)) + 1).toNat) (dt27 79 11)) := Fr_u2 hF39 (by decide)
        have w60 : (u2 (u2 dt27 83 ((4 * (dt27 79 10)).toNat) 8) 83 (((4 * (dt27 79 10)) + 1).toNat) (dt27 79 11)) 79 2 = (u2 dt27 83 ((4 * (dt27 79 10)).toNat) 8) 79 2 := rfl
        have w61 : (u2 (u2 dt27 83 ((4 * (dt27 79 10)).toNat) 8) 83 (((4 * (dt27 79 10)) + 1).toNat) (dt27 79 11)) 79 9 = (u2 dt27 83 ((4 * (dt27 79 10)).toNat) 8) 79 9 := rfl
        have w62 : (u2 (u2 dt27 83 ((4 * (dt27 79 10)).toNat) 8) 83 (((4 * (dt27 79 10)) + 1).toNat) (dt27 79 11)) 79 10 = (u2 dt27 83 ((4 * (dt27 79 10)).toNat) 8) 79 10 := rfl
        have w63 : (u2 (u2 dt27 83 ((4 * (dt27 79 10)).toNat) 8) 83 (((4 * (dt27 79 10)) + 1).toNat) (dt27 79 11)) 79 11 = (u2 dt27 83 ((4 * (dt27 79 10)).toNat) 8) 79 11 := rfl
        have w64 : (u2 (u2 dt27 83 ((4 * (dt27 79 10)).toNat) 8) 83 (((4 * (dt27 79 10)) + 1).toNat) (dt27 79 11)) 79 12 = (u2 dt27 83 ((4 * (dt27 79 10)).toNat) 8) 79 12 := rfl
        have w65 : (u2 (u2 dt27 83 ((4 * (dt27 79 10)).toNat) 8) 83 (((4 * (dt27 79 10)) + 1).toNat) (dt27 79 11)) 79 13 = (u2 dt27 83 ((4 * (dt27 79 10)).toNat) 8) 79 13 := rfl
        have w66 : (u2 (u2 dt27 83 ((4 * (dt27 79 10)).toNat) 8) 83 (((4 * (dt27 79 10)) + 1).toNat) (dt27 79 11)) 79 14 = (u2 dt27 83 ((4 * (dt27 79 10)).toNat) 8) 79 14 := rfl
        have w67 : (u2 (u2 dt27 83 ((4 * (dt27 79 10)).toNat) 8) 83 (((4 * (dt27 79 10)) + 1).toNat) (dt27 79 11)) 79 15 = (u2 dt27 83 ((4 * (dt27 79 10)).toNat) 8) 79 15 := rfl
        have w68 : (u2 (u2 dt27 83 ((4 * (dt27 79 10)).toNat) 8) 83 (((4 * (dt27 79 10)) + 1).toNat) (dt27 79 11)) 79 16 = (u2 dt27 83 ((4 * (dt27 79 10)).toNat) 8) 79 16 := rfl
        have w69 : (u2 (u2 dt27 83 ((4 * (dt27 79 10)).toNat) 8) 83 (((4 * (dt27 79 10)) + 1).toNat) (dt27 79 11)) 79 20 = (u2 dt27 83 ((4 * (dt27 79 10)).toNat) 8) 79 20 := rfl
        have E8470 : (u2 (u2 dt27 83 ((4 * (dt27 79 10)).toNat) 8) 83 (((4 * (dt27 79 10)) + 1).toNat) (dt27 79 11)) 84 = dt 84 := (funext fun _ => u2_ne (by omega)).trans E8450
        have ex72 : ((4 * (dt 79 10)) + 1).toNat = ((4 * (dt27 79 10)) + 1).toNat := by omega
        have BL71 : ∀ j : Nat, (j : Int) < 4 * dt 79 10 → (u2 (u2 dt27 83 ((4 * (dt27 79 10)).toNat) 8) 83 (((4 * (dt27 79 10)) + 1).toNat) (dt27 79 11)) 83 j = dt 83 j := fun j hj => (u2_ne (by omega)).trans (BL51 j hj)
        have y73 : (u2 (u2 dt27 83 ((4 * (dt27 79 10)).toNat) 8) 83 (((4 * (dt27 79 10)) + 1).toNat) (dt27 79 11)) 83 ((4 * (dt 79 10))).toNat = (u2 dt27 83 ((4 * (dt27 79 10)).toNat) 8) 83 ((4 * (dt 79 10))).toNat := u2_ne (by omega)
        have y74 : (u2 (u2 dt27 83 ((4 * (dt27 79 10)).toNat) 8) 83 (((4 * (dt27 79 10)) + 1).toNat) (dt27 79 11)) 83 ((4 * (dt 79 10)) + 1).toNat = dt27 79 11 := by rw [ex72]; exact u2_eq
        have y75 : (u2 (u2 dt27 83 ((4 * (dt27 79 10)).toNat) 8) 83 (((4 * (dt27 79 10)) + 1).toNat) (dt27 79 11)) 83 ((4 * (dt 79 10)) + 2).toNat = (u2 dt27 83 ((4 * (dt27 79 10)).toNat) 8) 83 ((4 * (dt 79 10)) + 2).toNat := u2_ne (by omega)
        have y76 : (u2 (u2 dt27 83 ((4 * (dt27 79 10)).toNat) 8) 83 (((4 * (dt27 79 10)) + 1).toNat) (dt27 79 11)) 83 ((4 * (dt 79 10)) + 3).toNat = (u2 dt27 83 ((4 * (dt27 79 10)).toNat) 8) 83 ((4 * (dt 79 10)) + 3).toNat := u2_ne (by omega)
        refine go_smp (L' := [some (.inr (.inr (some 79))), some (.inl 0)]) (st' := []) (w' := (SH, (u2 (u2 dt27 83 ((4 * (dt27 79 10)).toNat) 8) 83 (((4 * (dt27 79 10)) + 1).toNat) (dt27 79 11)))) rfl rfl (s_iast (n := 64) rfl ⟨by omega, by omega⟩ ⟨by omega, by omega⟩) ?_
        refine go_to (k := 1) (pc' := 121) (L' := [some (.inr (.inr (some 79))), some (.inl 0)]) (st' := [.inr (.inr (some 79))]) (w' := (SH, (u2 (u2 dt27 83 ((4 * (dt27 79 10)).toNat) 8) 83 (((4 * (dt27 79 10)) + 1).toNat) (dt27 79 11)))) (fun _ => rfl) ?_
        refine go_call (Q' := _) rfl rfl rfl rfl rfl (sp_X6_sumUp L xs sio (d + 27) (u2 (u2 dt27 83 ((4 * (dt27 79 10)).toNat) 8) 83 (((4 * (dt27 79 10)) + 1).toNat) (dt27 79 11)) hI58   (by first | trivial | omega) (by first | trivial | omega)) ?_
        rintro _ _ ⟨dt78, rfl, hI79, hF80, h77⟩
        refine ⟨rfl, ?_⟩
        have hF81 : Fr [79, 83, 84] dt dt78 := Fr_tr hF59 hF80 (by decide)
        rcases h77 with ⟨rfl, h77⟩ | ⟨rfl, h77⟩
        · skip
          obtain ⟨h77_0, h77_1, h77_2, h77_3⟩ := h77
          have BL82 : ∀ j : Nat, (j : Int) < 4 * dt 79 10 → dt78 83 j = dt 83 j := fun j hj => (hF80 83 (by decide) j).trans (BL71 j hj)
          have y83 : dt78 83 ((4 * (dt 79 10))).toNat = (u2 (u2 dt27 83 ((4 * (dt27 79 10)).toNat) 8) 83 (((4 * (dt27 79 10)) + 1).toNat) (dt27 79 11)) 83 ((4 * (dt 79 10))).toNat := hF80 83 (by decide) _
          have y84 : dt78 83 ((4 * (dt 79 10)) + 1).toNat = (u2 (u2 dt27 83 ((4 * (dt27 79 10)).toNat) 8) 83 (((4 * (dt27 79 10)) + 1).toNat) (dt27 79 11)) 83 ((4 * (dt 79 10)) + 1).toNat := hF80 83 (by decide) _
          have y85 : dt78 83 ((4 * (dt 79 10)) + 2).toNat = (u2 (u2 dt27 83 ((4 * (dt27 79 10)).toNat) 8) 83 (((4 * (dt27 79 10)) + 1).toNat) (dt27 79 11)) 83 ((4 * (dt 79 10)) + 2).toNat := hF80 83 (by decide) _
          have y86 : dt78 83 ((4 * (dt 79 10)) + 3).toNat = (u2 (u2 dt27 83 ((4 * (dt27 79 10)).toNat) 8) 83 (((4 * (dt27 79 10)) + 1).toNat) (dt27 79 11)) 83 ((4 * (dt 79 10)) + 3).toNat := hF80 83 (by decide) _
          refine go_ret (k := 3) (r := some (.inl 0)) (w1 := (SH, dt78)) (fun _ => rfl) ?_
          exact ⟨dt78, rfl, hI79, hF81, (Or.inl ⟨rfl, ⟨by first | trivial | omega, by first | trivial | omega, by first | trivial | omega⟩⟩)⟩
        · skip
          obtain ⟨h77_0, h77_1, h77_2, h77_3, h77_4, h77_5, h77_6, h77_7, h77_8, h77_9, h77_10⟩ := h77
          have BL87 : ∀ j : Nat, (j : Int) < 4 * dt 79 10 → dt78 83 j = dt 83 j := fun j hj => (hF80 83 (by decide) j).trans (BL71 j hj)
          have y88 : dt78 83 ((4 * (dt 79 10))).toNat = (u2 (u2 dt27 83 ((4 * (dt27 79 10)).toNat) 8) 83 (((4 * (dt27 79 10)) + 1).toNat) (dt27 79 11)) 83 ((4 * (dt 79 10))).toNat := hF80 83 (by decide) _
          have y89 : dt78 83 ((4 * (dt 79 10)) + 1).toNat = (u2 (u2 dt27 83 ((4 * (dt27 79 10)).toNat) 8) 83 (((4 * (dt27 79 10)) + 1).toNat) (dt27 79 11)) 83 ((4 * (dt 79 10)) + 1).toNat := hF80 83 (by decide) _
          have y90 : dt78 83 ((4 * (dt 79 10)) + 2).toNat = (u2 (u2 dt27 83 ((4 * (dt27 79 10)).toNat) 8) 83 (((4 * (dt27 79 10)) + 1).toNat) (dt27 79 11)) 83 ((4 * (dt 79 10)) + 2).toNat := hF80 83 (by decide) _
          have y91 : dt78 83 ((4 * (dt 79 10)) + 3).toNat = (u2 (u2 dt27 83 ((4 * (dt27 79 10)).toNat) 8) 83 (((4 * (dt27 79 10)) + 1).toNat) (dt27 79 11)) 83 ((4 * (dt 79 10)) + 3).toNat := hF80 83 (by decide) _
          have r92 : 0 ≤ dt78 79 10 ∧ dt78 79 10 ≤ 24 := InvC_get hI79 79 10 rfl rfl
          have r93 : 0 ≤ dt78 79 11 ∧ dt78 79 11 ≤ 510 := InvC_get hI79 79 11 rfl rfl
          refine go_to (k := 11) (pc' := 145) (L' := [some (.inr (.inr (some 79))), some (.inl 0)]) (st' := [.inl (dt78 79 11), .inl ((4 * (dt78 79 10)) + 2), .inr (.inr (some 83))]) (w' := (SH, dt78)) (fun _ => rfl) ?_
          have hI94 : InvC (u2 dt78 83 (((4 * (dt78 79 10)) + 2).toNat) (dt78 79 11)) := InvC_u2 hI79 (lo := -2147483648) (hi := 2147483647) rfl rfl rfl (by omega) (by omega)
          have hF95 : Fr [79, 83, 84] dt (u2 dt78 83 (((4 * (dt78 79 10)) + 2).toNat) (dt78 79 11)) := Fr_u2 hF81 (by decide)
          have w96 : (u2 dt78 83 (((4 * (dt78 79 10)) + 2).toNat) (dt78 79 11)) 79 2 = dt78 79 2 := rfl
          have w97 : (u2 dt78 83 (((4 * (dt78 79 10)) + 2).toNat) (dt78 79 11)) 79 9 = dt78 79 9 := rfl
          have w98 : (u2 dt78 83 (((4 * (dt78 79 10)) + 2).toNat) (dt78 79 11)) 79 10 = dt78 79 10 := rfl
          have w99 : (u2 dt78 83 (((4 * (dt78 79 10)) + 2).toNat) (dt78 79 11)) 79 11 = dt78 79 11 := rfl
          have w100 : (u2 dt78 83 (((4 * (dt78 79 10)) + 2).toNat) (dt78 79 11)) 79 12 = dt78 79 12 := rfl
          have w101 : (u2 dt78 83 (((4 * (dt78 79 10)) + 2).toNat) (dt78 79 11)) 79 13 = dt78 79 13 := rfl
          have w102 : (u2 dt78 83 (((4 * (dt78 79 10)) + 2).toNat) (dt78 79 11)) 79 14 = dt78 79 14 := rfl
          have w103 : (u2 dt78 83 (((4 * (dt78 79 10)) + 2).toNat) (dt78 79 11)) 79 15 = dt78 79 15 := rfl
          have w104 : (u2 dt78 83 (((4 * (dt78 79 10)) + 2).toNat) (dt78 79 11)) 79 16 = dt78 79 16 := rfl
          have w105 : (u2 dt78 83 (((4 * (dt78 79 10)) + 2).toNat) (dt78 79 11)) 79 20 = dt78 79 20 := rfl
          have E84106 : (u2 dt78 83 (((4 * (dt78 79 10)) + 2).toNat) (dt78 79 11)) 84 = dt78 84 := funext fun _ => u2_ne (by omega)
          have ex108 : ((4 * (dt 79 10)) + 2).toNat = ((4 * (dt78 79 10)) + 2).toNat := by omega
          have BL107 : ∀ j : Nat, (j : Int) < 4 * dt 79 10 → (u2 dt78 83 (((4 * (dt78 79 10)) + 2).toNat) (dt78 79 11)) 83 j = dt 83 j := fun j hj => (u2_ne (by omega)).trans (BL87 j hj)
          have y109 : (u2 dt78 83 (((4 * (dt78 79 10)) + 2).toNat) (dt78 79 11)) 83 ((4 * (dt 79 10))).toNat = dt78 83 ((4 * (dt 79 10))).toNat := u2_ne (by omega)
          have y110 : (u2 dt78 83 (((4 * (dt78 79 10)) + 2).toNat) (dt78 79 11)) 83 ((4 * (dt 79 10)) + 1).toNat = dt78 83 ((4 * (dt 79 10)) + 1).toNat := u2_ne (by omega)
          have y111 : (u2 dt78 83 (((4 * (dt78 79 10)) + 2).toNat) (dt78 79 11)) 83 ((4 * (dt 79 10)) + 2).toNat = dt78 79 11 := by rw [ex108]; exact u2_eq
          have y112 : (u2 dt78 83 (((4 * (dt78 79 10)) + 2).toNat) (dt78 79 11)) 83 ((4 * (dt 79 10)) + 3).toNat = dt78 83 ((4 * (dt 79 10)) + 3).toNat := u2_ne (by omega)
          refine go_smp (L' := [some (.inr (.inr (some 79))), some (.inl 0)]) (st' := []) (w' := (SH, (u2 dt78 83 (((4 * (dt78 79 10)) + 2).toNat) (dt78 79 11)))) rfl rfl (s_iast (n := 64) rfl ⟨by omega, by omega⟩ ⟨by omega, by omega⟩) ?_
          have r113 : (-2147483648) ≤ dt78 79 14 ∧ dt78 79 14 ≤ 2147483647 := InvC_get hI79 79 14 rfl rfl
          refine go_if (k := 4) (p1 := 167) (p2 := 154) (L' := [some (.inr (.inr (some 79))), some (.inl 0)]) (st' := []) (w' := (SH, (u2 dt78 83 (((4 * (dt78 79 10)) + 2).toNat) (dt78 79 11)))) (fun _ => rfl) (c_ne (a := dt78 79 14) (b := 3) ⟨by omega, by omega⟩ ⟨by omega, by omega⟩) (fun c114 => ?_) (fun c114 => ?_)
          · skip
            refine go_to (k := 10) (pc' := 183) (L' := [some (.inr (.inr (some 79))), some (.inl 0)]) (st' := [.inl (dt78 79 11), .inl ((4 * (dt78 79 10)) + 3), .inr (.inr (some 83))]) (w' := (SH, (u2 dt78 83 (((4 * (dt78 79 10)) + 2).toNat) (dt78 79 11)))) (fun _ => rfl) ?_
            have hI115 : InvC (u2 (u2 dt78 83 (((4 * (dt78 79 10)) + 2).toNat) (dt78 79 11)) 83 (((4 * (dt78 79 10)) + 3).toNat) (dt78 79 11)) := InvC_u2 hI94 (lo := -2147483648) (hi := 2147483647) rfl rfl rfl (by omega) (by omega)
            have hF116 : Fr [79, 83, 84] dt (u2 (u2 dt78 83 (((4 * (dt78 79 10)) + 2).toNat) (dt78 79 11)) 83 (((4 * (dt78 79 10)) + 3).toNat) (dt78 79 11)) := Fr_u2 hF95 (by decide)
            have w117 : (u2 (u2 dt78 83 (((4 * (dt78 79 10)) + 2).toNat) (dt78 79 11)) 83 (((4 * (dt78 79 10)) + 3).toNat) (dt78 79 11)) 79 2 = (u2 dt78 83 (((4 * (dt78 79 10)) + 2).toNat) (dt78 79 11)) 79 2 := rfl
            have w118 : (u2 (u2 dt78 83 (((4 * (dt78 79 10)) + 2).toNat) (dt78 79 11)) 83 (((4 * (dt78 79 10)) + 3).toNat) (dt78 79 11)) 79 9 = (u2 dt78 83 (((4 * (dt78 79 10)) + 2).toNat) (dt78 79 11)) 79 9 := rfl
            have w119 : (u2 (u2 dt78 83 (((4 * (dt78 79 10)) + 2).toNat) (dt78 79 11)) 83 (((4 * (dt78 79 10)) + 3).toNat) (dt78 79 11)) 79 10 = (u2 dt78 83 (((4 * (dt78 79 10)) + 2).toNat) (dt78 79 11)) 79 10 := rfl
            have w120 : (u2 (u2 dt78 83 (((4 * (dt78 79 10)) + 2).toNat) (dt78 79 11)) 83 (((4 * (dt78 79 10)) + 3).toNat) (dt78 79 11)) 79 11 = (u2 dt78 83 (((4 * (dt78 79 10)) + 2).toNat) (dt78 79 11)) 79 11 := rfl
            have w121 : (u2 (u2 dt78 83 (((4 * (dt78 79 10)) + 2).toNat) (dt78 79 11)) 83 (((4 * (dt78 79 10)) + 3).toNat) (dt78 79 11)) 79 12 = (u2 dt78 83 (((4 * (dt78 79 10)) + 2).toNat) (dt78 79 11)) 79 12 := rfl
            have w122 : (u2 (u2 dt78 83 (((4 * (dt78 79 10)) + 2).toNat) (dt78 79 11)) 83 (((4 * (dt78 79 10)) + 3).toNat) (dt78 79 11)) 79 13 = (u2 dt78 83 (((4 * (dt78 79 10)) + 2).toNat) (dt78 79 11)) 79 13 := rfl
            have w123 : (u2 (u2 dt78 83 (((4 * (dt78 79 10)) + 2).toNat) (dt78 79 11)) 83 (((4 * (dt78 79 10)) + 3).toNat) (dt78 79 11)) 79 14 = (u2 dt78 83 (((4 * (dt78 79 10)) + 2).toNat) (dt78 79 11)) 79 14 := rfl
            have w124 : (u2 (u2 dt78 83 (((4 * (dt78 79 10)) + 2).toNat) (dt78 79 11)) 83 (((4 * (dt78 79 10)) + 3).toNat) (dt78 79 11)) 79 15 = (u2 dt78 83 (((4 * (dt78 79 10)) + 2).toNat) (dt78 79 11)) 79 15 := rfl
            have w125 : (u2 (u2 dt78 83 (((4 * (dt78 79 10)) + 2).toNat) (dt78 79 11)) 83 (((4 * (dt78 79 10)) + 3).toNat) (dt78 79 11)) 79 16 = (u2 dt78 83 (((4 * (dt78 79 10)) + 2).toNat) (dt78 79 11)) 79 16 := rfl
            have w126 : (u2 (u2 dt78 83 (((4 * (dt78 79 10)) + 2).toNat) (dt78 79 11)) 83 (((4 * (dt78 79 10)) + 3).toNat) (dt78 79 11)) 79 20 = (u2 dt78 83 (((4 * (dt78 79 10)) + 2).toNat) (dt78 79 11)) 79 20 := rfl
            have E84127 : (u2 (u2 dt78 83 (((4 * (dt78 79 10)) + 2).toNat) (dt78 79 11)) 83 (((4 * (dt78 79 10)) + 3).toNat) (dt78 79 11)) 84 = dt78 84 := (funext fun _ => u2_ne (by omega)).trans E84106
            have ex129 : ((4 * (dt 79 10)) + 3).toNat = ((4 * (dt78 79 10)) + 3).toNat := by omega
            have BL128 : ∀ j : Nat, (j : Int) < 4 * dt 79 10 → (u2 (u2 dt78 83 (((4 * (dt78 79 10)) + 2).toNat) (dt78 79 11)) 83 (((4 * (dt78 79 10)) + 3).toNat) (dt78 79 11)) 83 j = dt 83 j := fun j hj => (u2_ne (by omega)).trans (BL107 j hj)
            have y130 : (u2 (u2 dt78 83 (((4 * (dt78 79 10)) + 2).toNat) (dt78 79 11)) 83 (((4 * (dt78 79 10)) + 3).toNat) (dt78 79 11)) 83 ((4 * (dt 79 10))).toNat = (u2 dt78 83 (((4 * (dt78 79 10)) + 2).toNat) (dt78 79 11)) 83 ((4 * (dt 79 10))).toNat := u2_ne (by omega)
            have y131 : (u2 (u2 dt78 83 (((4 * (dt78 79 10)) + 2).toNat) (dt78 79 11)) 83 (((4 * (dt78 79 10)) + 3).toNat) (dt78 79 11)) 83 ((4 * (dt 79 10)) + 1).toNat = (u2 dt78 83 (((4 * (dt78 79 10)) + 2).toNat) (dt78 79 11)) 83 ((4 * (dt 79 10)) + 1).toNat := u2_ne (by omega)
            have y132 : (u2 (u2 dt78 83 (((4 * (dt78 79 10)) + 2).toNat) (dt78 79 11)) 83 (((4 * (dt78 79 10)) + 3).toNat) (dt78 79 11)) 83 ((4 * (dt 79 10)) + 2).toNat = (u2 dt78 83 (((4 * (dt78 79 10)) + 2).toNat) (dt78 79 11)) 83 ((4 * (dt 79 10)) + 2).toNat := u2_ne (by omega)
            have y133 : (u2 (u2 dt78 83 (((4 * (dt78 79 10)) + 2).toNat) (dt78 79 11)) 83 (((4 * (dt78 79 10)) + 3).toNat) (dt78 79 11)) 83 ((4 * (dt 79 10)) + 3).toNat = dt78 79 11 := by rw [ex129]; exact u2_eq
            refine go_smp (L' := [some (.inr (.inr (some 79))), some (.inl 0)]) (st' := []) (w' := (SH, (u2 (u2 dt78 83 (((4 * (dt78 79 10)) + 2).toNat) (dt78 79 11)) 83 (((4 * (dt78 79 10)) + 3).toNat) (dt78 79 11)))) rfl rfl (s_iast (n := 64) rfl ⟨by omega, by omega⟩ ⟨by omega, by omega⟩) ?_
            refine go_to (k := 2) (pc' := 188) (L' := [some (.inr (.inr (some 79))), some (.inl 0)]) (st' := [.inl 159, .inr (.inr (some 79))]) (w' := (SH, (u2 (u2 dt78 83 (((4 * (dt78 79 10)) + 2).toNat) (dt78 79 11)) 83 (((4 * (dt78 79 10)) + 3).toNat) (dt78 79 11)))) (fun _ => rfl) ?_
            refine go_call (Q' := _) rfl rfl rfl rfl rfl (sp_X6_need0 L xs sio (d + 29) (u2 (u2 dt78 83 (((4 * (dt78 79 10)) + 2).toNat) (dt78 79 11)) 83 (((4 * (dt78 79 10)) + 3).toNat) (dt78 79 11)) hI115  159 ⟨by omega, by omega⟩ (by first | trivial | omega)) ?_
            rintro _ _ ⟨dt135, rfl, hI136, hF137, h134⟩
            refine ⟨rfl, ?_⟩
            have hF138 : Fr [79, 83, 84] dt dt135 := Fr_tr hF116 hF137 (by decide)
            have E84139 : dt135 84 = dt78 84 := (funext (hF137 84 (by decide))).trans E84127
            rcases h134 with ⟨rfl, h134⟩ | ⟨rfl, h134⟩
            · skip
              obtain ⟨h134_0, h134_1, h134_2, h134_3⟩ := h134
              have BL140 : ∀ j : Nat, (j : Int) < 4 * dt 79 10 → dt135 83 j = dt 83 j := fun j hj => (hF137 83 (by decide) j).trans (BL128 j hj)
              have y141 : dt135 83 ((4 * (dt 79 10))).toNat = (u2 (u2 dt78 83 (((4 * (dt78 79 10)) + 2).toNat) (dt78 79 11)) 83 (((4 * (dt78 79 10)) + 3).toNat) (dt78 79 11)) 83 ((4 * (dt 79 10))).toNat := hF137 83 (by decide) _
              have y142 : dt135 83 ((4 * (dt 79 10)) + 1).toNat = (u2 (u2 dt78 83 (((4 * (dt78 79 10)) + 2).toNat) (dt78 79 11)) 83 (((4 * (dt78 79 10)) + 3).toNat) (dt78 79 11)) 83 ((4 * (dt 79 10)) + 1).toNat := hF137 83 (by decide) _
              have y143 : dt135 83 ((4 * (dt 79 10)) + 2).toNat = (u2 (u2 dt78 83 (((4 * (dt78 79 10)) + 2).toNat) (dt78 79 11)) 83 (((4 * (dt78 79 10)) + 3).toNat) (dt78 79 11)) 83 ((4 * (dt 79 10)) + 2).toNat := hF137 83 (by decide) _
              have y144 : dt135 83 ((4 * (dt 79 10)) + 3).toNat = (u2 (u2 dt78 83 (((4 * (dt78 79 10)) + 2).toNat) (dt78 79 11)) 83 (((4 * (dt78 79 10)) + 3).toNat) (dt78 79 11)) 83 ((4 * (dt 79 10)) + 3).toNat := hF137 83 (by decide) _
              refine go_ret (k := 1) (r := some (.inl 0)) (w1 := (SH, dt135)) (fun _ => rfl) ?_
              exact ⟨dt135, rfl, hI136, hF138, (Or.inl ⟨rfl, ⟨by first | trivial | omega, by first | trivial | omega, by first | trivial | omega⟩⟩)⟩
            · skip
              obtain ⟨h134_0, h134_1, h134_2, h134_3, h134_4, h134_5, h134_6, h134_7, h134_8⟩ := h134
              have BL145 : ∀ j : Nat, (j : Int) < 4 * dt 79 10 → dt135 83 j = dt 83 j := fun j hj => (hF137 83 (by decide) j).trans (BL128 j hj)
              have y146 : dt135 83 ((4 * (dt 79 10))).toNat = (u2 (u2 dt78 83 (((4 * (dt78 79 10)) + 2).toNat) (dt78 79 11)) 83 (((4 * (dt78 79 10)) + 3).toNat) (dt78 79 11)) 83 ((4 * (dt 79 10))).toNat := hF137 83 (by decide) _
              have y147 : dt135 83 ((4 * (dt 79 10)) + 1).toNat = (u2 (u2 dt78 83 (((4 * (dt78 79 10)) + 2).toNat) (dt78 79 11)) 83 (((4 * (dt78 79 10)) + 3).toNat) (dt78 79 11)) 83 ((4 * (dt 79 10)) + 1).toNat := hF137 83 (by decide) _
              have y148 : dt135 83 ((4 * (dt 79 10)) + 2).toNat = (u2 (u2 dt78 83 (((4 * (dt78 79 10)) + 2).toNat) (dt78 79 11)) 83 (((4 * (dt78 79 10)) + 3).toNat) (dt78 79 11)) 83 ((4 * (dt 79 10)) + 2).toNat := hF137 83 (by decide) _
              have y149 : dt135 83 ((4 * (dt 79 10)) + 3).toNat = (u2 (u2 dt78 83 (((4 * (dt78 79 10)) + 2).toNat) (dt78 79 11)) 83 (((4 * (dt78 79 10)) + 3).toNat) (dt78 79 11)) 83 ((4 * (dt 79 10)) + 3).toNat := hF137 83 (by decide) _
              refine go_ret (k := 1) (r := some (.inl 1)) (w1 := (SH, dt135)) (fun _ => rfl) ?_
              exact ⟨dt135, rfl, hI136, hF138, (Or.inr ⟨rfl, ⟨by first | trivial | omega, by exact BL145, by exact ⟨by omega, PS_fin (by assumption) (by first | exact AGR_e (by assumption) | exact AGR_e rfl | exact AGR_tr (AGR_e (by assumption)) rfl (AGR_2 (by assumption) (by assumption) (by omega)) (by omega) | exact AGR_tr (AGR_e (by assumption)) rfl (AGR_2 (by assumption) rfl (by omega)) (by omega)) (by omega) (by omega), fun _ => by first | omega | exact PS_fin (by assumption) (by first | exact AGR_e (by assumption) | exact AGR_e rfl) (by omega) (by omega)⟩, by first | assumption | exact AGR_rfl | exact AGR_4 (by assumption) (by assumption) (by first | rfl | assumption) (by omega) | exact AGR_4 (by assumption) (by assumption) (by assumption) (by omega) | exact AGR_e (by assumption) | exact AGR_2 (by assumption) (by first | rfl | assumption) (by omega) | exact AGR_2 (by assumption) (by assumption) (by omega) | exact AGR_tr (by assumption) (by first | assumption | rfl) (by assumption) (by omega) | exact AGR_tr (by assumption) (by first | assumption | rfl) (AGR_tr (by assumption) (by first | assumption | rfl) (by assumption) (by omega)) (by omega) | exact AGR_tr (by assumption) (by first | assumption | rfl) (AGR_2 (by assumption) (by first | assumption | rfl) (by omega)) (by omega) | exact AGR_tr (by assumption) (by first | assumption | rfl) (AGR_tr (by assumption) (by first | assumption | rfl) (AGR_2 (by assumption) (by first | assumption | rfl) (by omega)) (by omega)) (by omega), by first | trivial | omega, by first | trivial | omega, by first | trivial | omega, by first | trivial | omega, by exact (InvC_get (by assumption) 79 15 rfl rfl).2, by first | trivial | omega, by first | trivial | omega, by first | trivial | omega, by first | trivial | omega⟩⟩)⟩
          · skip
            refine go_to (k := 1) (pc' := 155) (L' := [some (.inr (.inr (some 79))), some (.inl 0)]) (st' := [.inr (.inr (some 79))]) (w' := (SH, (u2 dt78 83 (((4 * (dt78 79 10)) + 2).toNat) (dt78 79 11)))) (fun _ => rfl) ?_
            refine go_call (Q' := _) rfl rfl rfl rfl rfl (sp_X6_next0 L xs sio (d + 30) (u2 dt78 83 (((4 * (dt78 79 10)) + 2).toNat) (dt78 79 11)) hI94   (by first | trivial | omega)) ?_
            rintro _ _ ⟨dt151, rfl, hI152, hF153, h150⟩
            refine ⟨rfl, ?_⟩
            have hF154 : Fr [79, 83, 84] dt dt151 := Fr_tr hF95 hF153 (by decide)
            have E84155 : dt151 84 = dt78 84 := (funext (hF153 84 (by decide))).trans E84106
            rcases h150 with ⟨rfl, h150⟩
            obtain ⟨h150_0, h150_1, h150_2, h150_3, h150_4, h150_5, h150_6, h150_7, h150_8⟩ := h150
            have BL156 : ∀ j : Nat, (j : Int) < 4 * dt 79 10 → dt151 83 j = dt 83 j := fun j hj => (hF153 83 (by decide) j).trans (BL107 j hj)
            have y157 : dt151 83 ((4 * (dt 79 10))).toNat = (u2 dt78 83 (((4 * (dt78 79 10)) + 2).toNat) (dt78 79 11)) 83 ((4 * (dt 79 10))).toNat := hF153 83 (by decide) _
            have y158 : dt151 83 ((4 * (dt 79 10)) + 1).toNat = (u2 dt78 83 (((4 * (dt78 79 10)) + 2).toNat) (dt78 79 11)) 83 ((4 * (dt 79 10)) + 1).toNat := hF153 83 (by decide) _
            have y159 : dt151 83 ((4 * (dt 79 10)) + 2).toNat = (u2 dt78 83 (((4 * (dt78 79 10)) + 2).toNat) (dt78 79 11)) 83 ((4 * (dt 79 10)) + 2).toNat := hF153 83 (by decide) _
            have y160 : dt151 83 ((4 * (dt 79 10)) + 3).toNat = (u2 dt78 83 (((4 * (dt78 79 10)) + 2).toNat) (dt78 79 11)) 83 ((4 * (dt 79 10)) + 3).toNat := hF153 83 (by decide) _
            refine go_to (k := 1) (pc' := 159) (L' := [some (.inr (.inr (some 79))), some (.inl 0)]) (st' := [.inr (.inr (some 79))]) (w' := (SH, dt151)) (fun _ => rfl) ?_
            refine go_call (Q' := _) rfl rfl rfl rfl rfl (sp_X6_any_0 L xs sio (d + 0) dt151 hI152   (by first | trivial | omega) (by first | trivial | omega) (by first | trivial | omega)) ?_
            rintro _ _ ⟨dt162, rfl, hI163, hF164, h161⟩
            refine ⟨rfl, ?_⟩
            have hF165 : Fr [79, 83, 84] dt dt162 := Fr_tr hF154 hF164 (by decide)
            rcases h161 with ⟨rfl, h161⟩ | ⟨rfl, h161⟩
            · skip
              obtain ⟨h161_0, h161_1, h161_2, h161_3⟩ := h161
              have BL166 : ∀ j : Nat, (j : Int) < 4 * dt 79 10 → dt162 83 j = dt 83 j := fun j hj => (hF164 83 (by decide) j).trans (BL156 j hj)
              have y167 : dt162 83 ((4 * (dt 79 10))).toNat = dt151 83 ((4 * (dt 79 10))).toNat := hF164 83 (by decide) _
              have y168 : dt162 83 ((4 * (dt 79 10)) + 1).toNat = dt151 83 ((4 * (dt 79 10)) + 1).toNat := hF164 83 (by decide) _
              have y169 : dt162 83 ((4 * (dt 79 10)) + 2).toNat = dt151 83 ((4 * (dt 79 10)) + 2).toNat := hF164 83 (by decide) _
              have y170 : dt162 83 ((4 * (dt 79 10)) + 3).toNat = dt151 83 ((4 * (dt 79 10)) + 3).toNat := hF164 83 (by decide) _
              refine go_ret (k := 3) (r := some (.inl 0)) (w1 := (SH, dt162)) (fun _ => rfl) ?_
              exact ⟨dt162, rfl, hI163, hF165, (Or.inl ⟨rfl, ⟨by first | trivial | omega, by first | trivial | omega, by first | trivial | omega⟩⟩)⟩
            · skip
              obtain ⟨h161_0, h161_1, h161_2, h161_3, h161_4, h161_5, h161_6, h161_7, h161_8, h161_9, h161_10⟩ := h161
              have BL171 : ∀ j : Nat, (j : Int) < 4 * dt 79 10 → dt162 83 j = dt 83 j := fun j hj => (hF164 83 (by decide) j).trans (BL156 j hj)
              have y172 : dt162 83 ((4 * (dt 79 10))).toNat = dt151 83 ((4 * (dt 79 10))).toNat := hF164 83 (by decide) _
              have y173 : dt162 83 ((4 * (dt 79 10)) + 1).toNat = dt151 83 ((4 * (dt 79 10)) + 1).toNat := hF164 83 (by decide) _
              have y174 : dt162 83 ((4 * (dt 79 10)) + 2).toNat = dt151 83 ((4 * (dt 79 10)) + 2).toNat := hF164 83 (by decide) _
              have y175 : dt162 83 ((4 * (dt 79 10)) + 3).toNat = dt151 83 ((4 * (dt 79 10)) + 3).toNat := hF164 83 (by decide) _
              have r176 : 0 ≤ dt162 79 10 ∧ dt162 79 10 ≤ 24 := InvC_get hI163 79 10 rfl rfl
              have r177 : 0 ≤ dt162 79 11 ∧ dt162 79 11 ≤ 510 := InvC_get hI163 79 11 rfl rfl
              refine go_to (k := 11) (pc' := 183) (L' := [some (.inr (.inr (some 79))), some (.inl 0)]) (st' := [.inl (dt162 79 11), .inl ((4 * (dt162 79 10)) + 3), .inr (.inr (some 83))]) (w' := (SH, dt162)) (fun _ => rfl) ?_
              have hI178 : InvC (u2 dt162 83 (((4 * (dt162 79 10)) + 3).toNat) (dt162 79 11)) := InvC_u2 hI163 (lo := -2147483648) (hi := 2147483647) rfl rfl rfl (by omega) (by omega)
              have hF179 : Fr [79, 83, 84] dt (u2 dt162 83 (((4 * (dt162 79 10)) + 3).toNat) (dt162 79 11)) := Fr_u2 hF165 (by decide)
              have w180 : (u2 dt162 83 (((4 * (dt162 79 10)) + 3).toNat) (dt162 79 11)) 79 2 = dt162 79 2 := rfl
              have w181 : (u2 dt162 83 (((4 * (dt162 79 10)) + 3).toNat) (dt162 79 11)) 79 9 = dt162 79 9 := rfl
              have w182 : (u2 dt162 83 (((4 * (dt162 79 10)) + 3).toNat) (dt162 79 11)) 79 10 = dt162 79 10 := rfl
              have w183 : (u2 dt162 83 (((4 * (dt162 79 10)) + 3).toNat) (dt162 79 11)) 79 11 = dt162 79 11 := rfl
              have w184 : (u2 dt162 83 (((4 * (dt162 79 10)) + 3).toNat) (dt162 79 11)) 79 12 = dt162 79 12 := rfl
              have w185 : (u2 dt162 83 (((4 * (dt162 79 10)) + 3).toNat) (dt162 79 11)) 79 13 = dt162 79 13 := rfl
              have w186 : (u2 dt162 83 (((4 * (dt162 79 10)) + 3).toNat) (dt162 79 11)) 79 14 = dt162 79 14 := rfl
              have w187 : (u2 dt162 83 (((4 * (dt162 79 10)) + 3).toNat) (dt162 79 11)) 79 15 = dt162 79 15 := rfl
              have w188 : (u2 dt162 83 (((4 * (dt162 79 10)) + 3).toNat) (dt162 79 11)) 79 16 = dt162 79 16 := rfl
              have w189 : (u2 dt162 83 (((4 * (dt162 79 10)) + 3).toNat) (dt162 79 11)) 79 20 = dt162 79 20 := rfl
              have E84190 : (u2 dt162 83 (((4 * (dt162 79 10)) + 3).toNat) (dt162 79 11)) 84 = dt162 84 := funext fun _ => u2_ne (by omega)
              have ex192 : ((4 * (dt 79 10)) + 3).toNat = ((4 * (dt162 79 10)) + 3).toNat := by omega
              have BL191 : ∀ j : Nat, (j : Int) < 4 * dt 79 10 → (u2 dt162 83 (((4 * (dt162 79 10)) + 3).toNat) (dt162 79 11)) 83 j = dt 83 j := fun j hj => (u2_ne (by omega)).trans (BL171 j hj)
              have y193 : (u2 dt162 83 (((4 * (dt162 79 10)) + 3).toNat) (dt162 79 11)) 83 ((4 * (dt 79 10))).toNat = dt162 83 ((4 * (dt 79 10))).toNat := u2_ne (by omega)
              have y194 : (u2 dt162 83 (((4 * (dt162 79 10)) + 3).toNat) (dt162 79 11)) 83 ((4 * (dt 79 10)) + 1).toNat = dt162 83 ((4 * (dt 79 10)) + 1).toNat := u2_ne (by omega)
              have y195 : (u2 dt162 83 (((4 * (dt162 79 10)) + 3).toNat) (dt162 79 11)) 83 ((4 * (dt 79 10)) + 2).toNat = dt162 83 ((4 * (dt 79 10)) + 2).toNat := u2_ne (by omega)
              have y196 : (u2 dt162 83 (((4 * (dt162 79 10)) + 3).toNat) (dt162 79 11)) 83 ((4 * (dt 79 10)) + 3).toNat = dt162 79 11 := by rw [ex192]; exact u2_eq
              refine go_smp (L' := [some (.inr (.inr (some 79))), some (.inl 0)]) (st' := []) (w' := (SH, (u2 dt162 83 (((4 * (dt162 79 10)) + 3).toNat) (dt162 79 11)))) rfl rfl (s_iast (n := 64) rfl ⟨by omega, by omega⟩ ⟨by omega, by omega⟩) ?_
              refine go_to (k := 2) (pc' := 188) (L' := [some (.inr (.inr (some 79))), some (.inl 0)]) (st' := [.inl 159, .inr (.inr (some 79))]) (w' := (SH, (u2 dt162 83 (((4 * (dt162 79 10)) + 3).toNat) (dt162 79 11)))) (fun _ => rfl) ?_
              refine go_call (Q' := _) rfl rfl rfl rfl rfl (sp_X6_need0 L xs sio (d + 29) (u2 dt162 83 (((4 * (dt162 79 10)) + 3).toNat) (dt162 79 11)) hI178  159 ⟨by omega, by omega⟩ (by first | trivial | omega)) ?_
              rintro _ _ ⟨dt198, rfl, hI199, hF200, h197⟩
              refine ⟨rfl, ?_⟩
              have hF201 : Fr [79, 83, 84] dt dt198 := Fr_tr hF179 hF200 (by decide)
              have E84202 : dt198 84 = dt162 84 := (funext (hF200 84 (by decide))).trans E84190
              rcases h197 with ⟨rfl, h197⟩ | ⟨rfl, h197⟩
              · skip
                obtain ⟨h197_0, h197_1, h197_2, h197_3⟩ := h197
                have BL203 : ∀ j : Nat, (j : Int) < 4 * dt 79 10 → dt198 83 j = dt 83 j := fun j hj => (hF200 83 (by decide) j).trans (BL191 j hj)
                have y204 : dt198 83 ((4 * (dt 79 10))).toNat = (u2 dt162 83 (((4 * (dt162 79 10)) + 3).toNat) (dt162 79 11)) 83 ((4 * (dt 79 10))).toNat := hF200 83 (by decide) _
                have y205 : dt198 83 ((4 * (dt 79 10)) + 1).toNat = (u2 dt162 83 (((4 * (dt162 79 10)) + 3).toNat) (dt162 79 11)) 83 ((4 * (dt 79 10)) + 1).toNat := hF200 83 (by decide) _
                have y206 : dt198 83 ((4 * (dt 79 10)) + 2).toNat = (u2 dt162 83 (((4 * (dt162 79 10)) + 3).toNat) (dt162 79 11)) 83 ((4 * (dt 79 10)) + 2).toNat := hF200 83 (by decide) _
                have y207 : dt198 83 ((4 * (dt 79 10)) + 3).toNat = (u2 dt162 83 (((4 * (dt162 79 10)) + 3).toNat) (dt162 79 11)) 83 ((4 * (dt 79 10)) + 3).toNat := hF200 83 (by decide) _
                refine go_ret (k := 1) (r := some (.inl 0)) (w1 := (SH, dt198)) (fun _ => rfl) ?_
                exact ⟨dt198, rfl, hI199, hF201, (Or.inl ⟨rfl, ⟨by first | trivial | omega, by first | trivial | omega, by first | trivial | omega⟩⟩)⟩
              · skip
                obtain ⟨h197_0, h197_1, h197_2, h197_3, h197_4, h197_5, h197_6, h197_7, h197_8⟩ := h197
                have BL208 : ∀ j : Nat, (j : Int) < 4 * dt 79 10 → dt198 83 j = dt 83 j := fun j hj => (hF200 83 (by decide) j).trans (BL191 j hj)
                have y209 : dt198 83 ((4 * (dt 79 10))).toNat = (u2 dt162 83 (((4 * (dt162 79 10)) + 3).toNat) (dt162 79 11)) 83 ((4 * (dt 79 10))).toNat := hF200 83 (by decide) _
                have y210 : dt198 83 ((4 * (dt 79 10)) + 1).toNat = (u2 dt162 83 (((4 * (dt162 79 10)) + 3).toNat) (dt162 79 11)) 83 ((4 * (dt 79 10)) + 1).toNat := hF200 83 (by decide) _
                have y211 : dt198 83 ((4 * (dt 79 10)) + 2).toNat = (u2 dt162 83 (((4 * (dt162 79 10)) + 3).toNat) (dt162 79 11)) 83 ((4 * (dt 79 10)) + 2).toNat := hF200 83 (by decide) _
                have y212 : dt198 83 ((4 * (dt 79 10)) + 3).toNat = (u2 dt162 83 (((4 * (dt162 79 10)) + 3).toNat) (dt162 79 11)) 83 ((4 * (dt 79 10)) + 3).toNat := hF200 83 (by decide) _
                refine go_ret (k := 1) (r := some (.inl 1)) (w1 := (SH, dt198)) (fun _ => rfl) ?_
                exact ⟨dt198, rfl, hI199, hF201, (Or.inr ⟨rfl, ⟨by first | trivial | omega, by exact BL208, by exact ⟨by omega, PS_fin (by assumption) (by first | exact AGR_e (by assumption) | exact AGR_e rfl | exact AGR_tr (AGR_e (by assumption)) rfl (AGR_2 (by assumption) (by assumption) (by omega)) (by omega) | exact AGR_tr (AGR_e (by assumption)) rfl (AGR_2 (by assumption) rfl (by omega)) (by omega)) (by omega) (by omega), fun _ => by first | omega | exact PS_fin (by assumption) (by first | exact AGR_e (by assumption) | exact AGR_e rfl) (by omega) (by omega)⟩, by first | assumption | exact AGR_rfl | exact AGR_4 (by assumption) (by assumption) (by first | rfl | assumption) (by omega) | exact AGR_4 (by assumption) (by assumption) (by assumption) (by omega) | exact AGR_e (by assumption) | exact AGR_2 (by assumption) (by first | rfl | assumption) (by omega) | exact AGR_2 (by assumption) (by assumption) (by omega) | exact AGR_tr (by assumption) (by first | assumption | rfl) (by assumption) (by omega) | exact AGR_tr (by assumption) (by first | assumption | rfl) (AGR_tr (by assumption) (by first | assumption | rfl) (by assumption) (by omega)) (by omega) | exact AGR_tr (by assumption) (by first | assumption | rfl) (AGR_2 (by assumption) (by first | assumption | rfl) (by omega)) (by omega) | exact AGR_tr (by assumption) (by first | assumption | rfl) (AGR_tr (by assumption) (by first | assumption | rfl) (AGR_2 (by assumption) (by first | assumption | rfl) (by omega)) (by omega)) (by omega), by first | trivial | omega, by first | trivial | omega, by first | trivial | omega, by first | trivial | omega, by exact (InvC_get (by assumption) 79 15 rfl rfl).2, by first | trivial | omega, by first | trivial | omega, by first | trivial | omega, by first | trivial | omega⟩⟩)⟩
      · skip
        refine go_to (k := 5) (pc' := 56) (L' := [some (.inr (.inr (some 79))), some (.inl 1)]) (st' := [.inl 0, .inr (.inr (some 79))]) (w' := (SH, dt)) (fun _ => rfl) ?_
        have hI213 : InvC (u2 dt 79 20 0) := InvC_u2 hI (lo := 0) (hi := 8) rfl rfl rfl (by omega) (by omega)
        have hF214 : Fr [79, 83, 84] dt (u2 dt 79 20 0) := Fr_u2 hF (by decide)
        have w215 : (u2 dt 79 20 0) 79 2 = dt 79 2 := rfl
        have w216 : (u2 dt 79 20 0) 79 9 = dt 79 9 := rfl
        have w217 : (u2 dt 79 20 0) 79 10 = dt 79 10 := rfl
        have w218 : (u2 dt 79 20 0) 79 11 = dt 79 11 := rfl
        have w219 : (u2 dt 79 20 0) 79 12 = dt 79 12 := rfl
        have w220 : (u2 dt 79 20 0) 79 13 = dt 79 13 := rfl
        have w221 : (u2 dt 79 20 0) 79 14 = dt 79 14 := rfl
        have w222 : (u2 dt 79 20 0) 79 15 = dt 79 15 := rfl
        have w223 : (u2 dt 79 20 0) 79 16 = dt 79 16 := rfl
        have w224 : (u2 dt 79 20 0) 79 20 = 0 := rfl
        have E84225 : (u2 dt 79 20 0) 84 = dt 84 := funext fun _ => u2_ne (by omega)
        have BL226 : ∀ j : Nat, (j : Int) < 4 * dt 79 10 → (u2 dt 79 20 0) 83 j = dt 83 j := fun j hj => (u2_ne (by omega)).trans ((fun _ _ => rfl) j hj)
        have y227 : (u2 dt 79 20 0) 83 ((4 * (dt 79 10))).toNat = dt 83 ((4 * (dt 79 10))).toNat := u2_ne (by omega)
        have y228 : (u2 dt 79 20 0) 83 ((4 * (dt 79 10)) + 1).toNat = dt 83 ((4 * (dt 79 10)) + 1).toNat := u2_ne (by omega)
        have y229 : (u2 dt 79 20 0) 83 ((4 * (dt 79 10)) + 2).toNat = dt 83 ((4 * (dt 79 10)) + 2).toNat := u2_ne (by omega)
        have y230 : (u2 dt 79 20 0) 83 ((4 * (dt 79 10)) + 3).toNat = dt 83 ((4 * (dt 79 10)) + 3).toNat := u2_ne (by omega)
        refine go_smp (L' := [some (.inr (.inr (some 79))), some (.inl 1)]) (st' := []) (w' := (SH, (u2 dt 79 20 0))) rfl rfl (s_pf rfl rfl rfl rfl ⟨by omega, by omega⟩) ?_
        refine go_to (k := 1) (pc' := 60) (L' := [some (.inr (.inr (some 79))), some (.inl 1)]) (st' := [.inr (.inr (some 79))]) (w' := (SH, (u2 dt 79 20 0))) (fun _ => rfl) ?_
        refine go_call (Q' := _) rfl rfl rfl rfl rfl (sp_X6_next0 L xs sio (d + 30) (u2 dt 79 20 0) hI213   (by first | trivial | omega)) ?_
        rintro _ _ ⟨dt232, rfl, hI233, hF234, h231⟩
        refine ⟨rfl, ?_⟩
        have hF235 : Fr [79, 83, 84] dt dt232 := Fr_tr hF214 hF234 (by decide)
        have E84236 : dt232 84 = dt 84 := (funext (hF234 84 (by decide))).trans E84225
        rcases h231 with ⟨rfl, h231⟩
        obtain ⟨h231_0, h231_1, h231_2, h231_3, h231_4, h231_5, h231_6, h231_7, h231_8⟩ := h231
        have BL237 : ∀ j : Nat, (j : Int) < 4 * dt 79 10 → dt232 83 j = dt 83 j := fun j hj => (hF234 83 (by decide) j).trans (BL226 j hj)
        have y238 : dt232 83 ((4 * (dt 79 10))).toNat = (u2 dt 79 20 0) 83 ((4 * (dt 79 10))).toNat := hF234 83 (by decide) _
        have y239 : dt232 83 ((4 * (dt 79 10)) + 1).toNat = (u2 dt 79 20 0) 83 ((4 * (dt 79 10)) + 1).toNat := hF234 83 (by decide) _
        have y240 : dt232 83 ((4 * (dt 79 10)) + 2).toNat = (u2 dt 79 20 0) 83 ((4 * (dt 79 10)) + 2).toNat := hF234 83 (by decide) _
        have y241 : dt232 83 ((4 * (dt 79 10)) + 3).toNat = (u2 dt 79 20 0) 83 ((4 * (dt 79 10)) + 3).toNat := hF234 83 (by decide) _
        have r242 : 0 ≤ dt232 79 10 ∧ dt232 79 10 ≤ 24 := InvC_get hI233 79 10 rfl rfl
        have r243 : 0 ≤ dt232 79 16 ∧ dt232 79 16 ≤ 9999 := InvC_get hI233 79 16 rfl rfl
        refine go_to (k := 11) (pc' := 86) (L' := [some (.inr (.inr (some 79))), some (.inl 1)]) (st' := [.inl (dt232 79 16), .inl (4 * (dt232 79 10)), .inr (.inr (some 83))]) (w' := (SH, dt232)) (fun _ => rfl) ?_
        have hI244 : InvC (u2 dt232 83 ((4 * (dt232 79 10)).toNat) (dt232 79 16)) := InvC_u2 hI233 (lo := -2147483648) (hi := 2147483647) rfl rfl rfl (by omega) (by omega)
        have hF245 : Fr [79, 83, 84] dt (u2 dt232 83 ((4 * (dt232 79 10)).toNat) (dt232 79 16)) := Fr_u2 hF235 (by decide)
        have w246 : (u2 dt232 83 ((4 * (dt232 79 10)).toNat) (dt232 79 16)) 79 2 = dt232 79 2 := rfl
        have w247 : (u2 dt232 83 ((4 * (dt232 79 10)).toNat) (dt232 79 16)) 79 9 = dt232 79 9 := rfl
        have w248 : (u2 dt232 83 ((4 * (dt232 79 10)).toNat) (dt232 79 16)) 79 10 = dt232 79 10 := rfl
        have w249 : (u2 dt232 83 ((4 * (dt232 79 10)).toNat) (dt232 79 16)) 79 11 = dt232 79 11 := rfl
        have w250 : (u2 dt232 83 ((4 * (dt232 79 10)).toNat) (dt232 79 16)) 79 12 = dt232 79 12 := rfl
        have w251 : (u2 dt232 83 ((4 * (dt232 79 10)).toNat) (dt232 79 16)) 79 13 = dt232 79 13 := rfl
        have w252 : (u2 dt232 83 ((4 * (dt232 79 10)).toNat) (dt232 79 16)) 79 14 = dt232 79 14 := rfl
        have w253 : (u2 dt232 83 ((4 * (dt232 79 10)).toNat) (dt232 79 16)) 79 15 = dt232 79 15 := rfl
        have w254 : (u2 dt232 83 ((4 * (dt232 79 10)).toNat) (dt232 79 16)) 79 16 = dt232 79 16 := rfl
        have w255 : (u2 dt232 83 ((4 * (dt232 79 10)).toNat) (dt232 79 16)) 79 20 = dt232 79 20 := rfl
        have E84256 : (u2 dt232 83 ((4 * (dt232 79 10)).toNat) (dt232 79 16)) 84 = dt 84 := (funext fun _ => u2_ne (by omega)).trans E84236
        have ex258 : ((4 * (dt 79 10))).toNat = (4 * (dt232 79 10)).toNat := by omega
        have BL257 : ∀ j : Nat, (j : Int) < 4 * dt 79 10 → (u2 dt232 83 ((4 * (dt232 79 10)).toNat) (dt232 79 16)) 83 j = dt 83 j := fun j hj => (u2_ne (by omega)).trans (BL237 j hj)
        have y259 : (u2 dt232 83 ((4 * (dt232 79 10)).toNat) (dt232 79 16)) 83 ((4 * (dt 79 10))).toNat = dt232 79 16 := by rw [ex258]; exact u2_eq
        have y260 : (u2 dt232 83 ((4 * (dt232 79 10)).toNat) (dt232 79 16)) 83 ((4 * (dt 79 10)) + 1).toNat = dt232 83 ((4 * (dt 79 10)) + 1).toNat := u2_ne (by omega)
        have y261 : (u2 dt232 83 ((4 * (dt232 79 10)).toNat) (dt232 79 16)) 83 ((4 * (dt 79 10)) + 2).toNat = dt232 83 ((4 * (dt 79 10)) + 2).toNat := u2_ne (by omega)
        have y262 : (u2 dt232 83 ((4 * (dt232 79 10)).toNat) (dt232 79 16)) 83 ((4 * (dt 79 10)) + 3).toNat = dt232 83 ((4 * (dt 79 10)) + 3).toNat := u2_ne (by omega)
        refine go_smp (L' := [some (.inr (.inr (some 79))), some (.inl 1)]) (st' := []) (w' := (SH, (u2 dt232 83 ((4 * (dt232 79 10)).toNat) (dt232 79 16)))) rfl rfl (s_iast (n := 64) rfl ⟨by omega, by omega⟩ ⟨by omega, by omega⟩) ?_
        refine go_to (k := 5) (pc' := 95) (L' := [some (.inr (.inr (some 79))), some (.inl 1)]) (st' := [.inl 7, .inl 0, .inr (.inr (some 79))]) (w' := (SH, (u2 dt232 83 ((4 * (dt232 79 10)).toNat) (dt232 79 16)))) (fun _ => rfl) ?_
        refine go_call (Q' := _) rfl rfl rfl rfl rfl (sp_X6_number L xs sio (d + 29) (u2 dt232 83 ((4 * (dt232 79 10)).toNat) (dt232 79 16)) hI244  0 ⟨by omega, by omega⟩ 7 ⟨by omega, by omega⟩ (by first | trivial | omega)) ?_
        rintro _ _ ⟨dt264, rfl, hI265, hF266, h263⟩
        refine ⟨rfl, ?_⟩
        have hF267 : Fr [79, 83, 84] dt dt264 := Fr_tr hF245 hF266 (by decide)
        have E84268 : dt264 84 = dt 84 := (funext (hF266 84 (by decide))).trans E84256
        rcases h263 with ⟨rfl, h263⟩ | ⟨rfl, h263⟩
        · skip
          obtain ⟨h263_0, h263_1, h263_2, h263_3⟩ := h263
          have BL269 : ∀ j : Nat, (j : Int) < 4 * dt 79 10 → dt264 83 j = dt 83 j := fun j hj => (hF266 83 (by decide) j).trans (BL257 j hj)
          have y270 : dt264 83 ((4 * (dt 79 10))).toNat = (u2 dt232 83 ((4 * (dt232 79 10)).toNat) (dt232 79 16)) 83 ((4 * (dt 79 10))).toNat := hF266 83 (by decide) _
          have y271 : dt264 83 ((4 * (dt 79 10)) + 1).toNat = (u2 dt232 83 ((4 * (dt232 79 10)).toNat) (dt232 79 16)) 83 ((4 * (dt 79 10)) + 1).toNat := hF266 83 (by decide) _
          have y272 : dt264 83 ((4 * (dt 79 10)) + 2).toNat = (u2 dt232 83 ((4 * (dt232 79 10)).toNat) (dt232 79 16)) 83 ((4 * (dt 79 10)) + 2).toNat := hF266 83 (by decide) _
          have y273 : dt264 83 ((4 * (dt 79 10)) + 3).toNat = (u2 dt232 83 ((4 * (dt232 79 10)).toNat) (dt232 79 16)) 83 ((4 * (dt 79 10)) + 3).toNat := hF266 83 (by decide) _
          refine go_ret (k := 3) (r := some (.inl 0)) (w1 := (SH, dt264)) (fun _ => rfl) ?_
          exact ⟨dt264, rfl, hI265, hF267, (Or.inl ⟨rfl, ⟨by first | trivial | omega, by first | trivial | omega, by first | trivial | omega⟩⟩)⟩
        · skip
          obtain ⟨h263_0, h263_1, h263_2, h263_3, h263_4, h263_5, h263_6, h263_7, h263_8, h263_9, h263_10⟩ := h263
          have BL274 : ∀ j : Nat, (j : Int) < 4 * dt 79 10 → dt264 83 j = dt 83 j := fun j hj => (hF266 83 (by decide) j).trans (BL257 j hj)
          have y275 : dt264 83 ((4 * (dt 79 10))).toNat = (u2 dt232 83 ((4 * (dt232 79 10)).toNat) (dt232 79 16)) 83 ((4 * (dt 79 10))).toNat := hF266 83 (by decide) _
          have y276 : dt264 83 ((4 * (dt 79 10)) + 1).toNat = (u2 dt232 83 ((4 * (dt232 79 10)).toNat) (dt232 79 16)) 83 ((4 * (dt 79 10)) + 1).toNat := hF266 83 (by decide) _
          have y277 : dt264 83 ((4 * (dt 79 10)) + 2).toNat = (u2 dt232 83 ((4 * (dt232 79 10)).toNat) (dt232 79 16)) 83 ((4 * (dt 79 10)) + 2).toNat := hF266 83 (by decide) _
          have y278 : dt264 83 ((4 * (dt 79 10)) + 3).toNat = (u2 dt232 83 ((4 * (dt232 79 10)).toNat) (dt232 79 16)) 83 ((4 * (dt 79 10)) + 3).toNat := hF266 83 (by decide) _
          have r279 : 0 ≤ dt264 79 10 ∧ dt264 79 10 ≤ 24 := InvC_get hI265 79 10 rfl rfl
          have r280 : 0 ≤ dt264 79 11 ∧ dt264 79 11 ≤ 510 := InvC_get hI265 79 11 rfl rfl
          refine go_to (k := 11) (pc' := 119) (L' := [some (.inr (.inr (some 79))), some (.inl 1)]) (st' := [.inl (dt264 79 11), .inl ((4 * (dt264 79 10)) + 1), .inr (.inr (some 83))]) (w' := (SH, dt264)) (fun _ => rfl) ?_
          have hI281 : InvC (u2 dt264 83 (((4 * (dt264 79 10)) + 1).toNat) (dt264 79 11)) := InvC_u2 hI265 (lo := -2147483648) (hi := 2147483647) rfl rfl rfl (by omega) (by omega)
          have hF282 : Fr [79, 83, 84] dt (u2 dt264 83 (((4 * (dt264 79 10)) + 1).toNat) (dt264 79 11)) := Fr_u2 hF267 (by decide)
          have w283 : (u2 dt264 83 (((4 * (dt264 79 10)) + 1).toNat) (dt264 79 11)) 79 2 = dt264 79 2 := rfl
          have w284 : (u2 dt264 83 (((4 * (dt264 79 10)) + 1).toNat) (dt264 79 11)) 79 9 = dt264 79 9 := rfl
          have w285 : (u2 dt264 83 (((4 * (dt264 79 10)) + 1).toNat) (dt264 79 11)) 79 10 = dt264 79 10 := rfl
          have w286 : (u2 dt264 83 (((4 * (dt264 79 10)) + 1).toNat) (dt264 79 11)) 79 11 = dt264 79 11 := rfl
          have w287 : (u2 dt264 83 (((4 * (dt264 79 10)) + 1).toNat) (dt264 79 11)) 79 12 = dt264 79 12 := rfl
          have w288 : (u2 dt264 83 (((4 * (dt264 79 10)) + 1).toNat) (dt264 79 11)) 79 13 = dt264 79 13 := rfl
          have w289 : (u2 dt264 83 (((4 * (dt264 79 10)) + 1).toNat) (dt264 79 11)) 79 14 = dt264 79 14 := rfl
          have w290 : (u2 dt264 83 (((4 * (dt264 79 10)) + 1).toNat) (dt264 79 11)) 79 15 = dt264 79 15 := rfl
          have w291 : (u2 dt264 83 (((4 * (dt264 79 10)) + 1).toNat) (dt264 79 11)) 79 16 = dt264 79 16 := rfl
          have w292 : (u2 dt264 83 (((4 * (dt264 79 10)) + 1).toNat) (dt264 79 11)) 79 20 = dt264 79 20 := rfl
          have E84293 : (u2 dt264 83 (((4 * (dt264 79 10)) + 1).toNat) (dt264 79 11)) 84 = dt 84 := (funext fun _ => u2_ne (by omega)).trans E84268
          have ex295 : ((4 * (dt 79 10)) + 1).toNat = ((4 * (dt264 79 10)) + 1).toNat := by omega
          have BL294 : ∀ j : Nat, (j : Int) < 4 * dt 79 10 → (u2 dt264 83 (((4 * (dt264 79 10)) + 1).toNat) (dt264 79 11)) 83 j = dt 83 j := fun j hj => (u2_ne (by omega)).trans (BL274 j hj)
          have y296 : (u2 dt264 83 (((4 * (dt264 79 10)) + 1).toNat) (dt264 79 11)) 83 ((4 * (dt 79 10))).toNat = dt264 83 ((4 * (dt 79 10))).toNat := u2_ne (by omega)
          have y297 : (u2 dt264 83 (((4 * (dt264 79 10)) + 1).toNat) (dt264 79 11)) 83 ((4 * (dt 79 10)) + 1).toNat = dt264 79 11 := by rw [ex295]; exact u2_eq
          have y298 : (u2 dt264 83 (((4 * (dt264 79 10)) + 1).toNat) (dt264 79 11)) 83 ((4 * (dt 79 10)) + 2).toNat = dt264 83 ((4 * (dt 79 10)) + 2).toNat := u2_ne (by omega)
          have y299 : (u2 dt264 83 (((4 * (dt264 79 10)) + 1).toNat) (dt264 79 11)) 83 ((4 * (dt 79 10)) + 3).toNat = dt264 83 ((4 * (dt 79 10)) + 3).toNat := u2_ne (by omega)
          refine go_smp (L' := [some (.inr (.inr (some 79))), some (.inl 1)]) (st' := []) (w' := (SH, (u2 dt264 83 (((4 * (dt264 79 10)) + 1).toNat) (dt264 79 11)))) rfl rfl (s_iast (n := 64) rfl ⟨by omega, by omega⟩ ⟨by omega, by omega⟩) ?_
          refine go_to (k := 1) (pc' := 121) (L' := [some (.inr (.inr (some 79))), some (.inl 1)]) (st' := [.inr (.inr (some 79))]) (w' := (SH, (u2 dt264 83 (((4 * (dt264 79 10)) + 1).toNat) (dt264 79 11)))) (fun _ => rfl) ?_
          refine go_call (Q' := _) rfl rfl rfl rfl rfl (sp_X6_sumUp L xs sio (d + 27) (u2 dt264 83 (((4 * (dt264 79 10)) + 1).toNat) (dt264 79 11)) hI281   (by first | trivial | omega) (by first | trivial | omega)) ?_
          rintro _ _ ⟨dt301, rfl, hI302, hF303, h300⟩
          refine ⟨rfl, ?_⟩
          have hF304 : Fr [79, 83, 84] dt dt301 := Fr_tr hF282 hF303 (by decide)
          rcases h300 with ⟨rfl, h300⟩ | ⟨rfl, h300⟩
          · skip
            obtain ⟨h300_0, h300_1, h300_2, h300_3⟩ := h300
            have BL305 : ∀ j : Nat, (j : Int) < 4 * dt 79 10 → dt301 83 j = dt 83 j := fun j hj => (hF303 83 (by decide) j).trans (BL294 j hj)
            have y306 : dt301 83 ((4 * (dt 79 10))).toNat = (u2 dt264 83 (((4 * (dt264 79 10)) + 1).toNat) (dt264 79 11)) 83 ((4 * (dt 79 10))).toNat := hF303 83 (by decide) _
            have y307 : dt301 83 ((4 * (dt 79 10)) + 1).toNat = (u2 dt264 83 (((4 * (dt264 79 10)) + 1).toNat) (dt264 79 11)) 83 ((4 * (dt 79 10)) + 1).toNat := hF303 83 (by decide) _
            have y308 : dt301 83 ((4 * (dt 79 10)) + 2).toNat = (u2 dt264 83 (((4 * (dt264 79 10)) + 1).toNat) (dt264 79 11)) 83 ((4 * (dt 79 10)) + 2).toNat := hF303 83 (by decide) _
            have y309 : dt301 83 ((4 * (dt 79 10)) + 3).toNat = (u2 dt264 83 (((4 * (dt264 79 10)) + 1).toNat) (dt264 79 11)) 83 ((4 * (dt 79 10)) + 3).toNat := hF303 83 (by decide) _
            refine go_ret (k := 3) (r := some (.inl 0)) (w1 := (SH, dt301)) (fun _ => rfl) ?_
            exact ⟨dt301, rfl, hI302, hF304, (Or.inl ⟨rfl, ⟨by first | trivial | omega, by first | trivial | omega, by first | trivial | omega⟩⟩)⟩
          · skip
            obtain ⟨h300_0, h300_1, h300_2, h300_3, h300_4, h300_5, h300_6, h300_7, h300_8, h300_9, h300_10⟩ := h300
            have BL310 : ∀ j : Nat, (j : Int) < 4 * dt 79 10 → dt301 83 j = dt 83 j := fun j hj => (hF303 83 (by decide) j).trans (BL294 j hj)
            have y311 : dt301 83 ((4 * (dt 79 10))).toNat = (u2 dt264 83 (((4 * (dt264 79 10)) + 1).toNat) (dt264 79 11)) 83 ((4 * (dt 79 10))).toNat := hF303 83 (by decide) _
            have y312 : dt301 83 ((4 * (dt 79 10)) + 1).toNat = (u2 dt264 83 (((4 * (dt264 79 10)) + 1).toNat) (dt264 79 11)) 83 ((4 * (dt 79 10)) + 1).toNat := hF303 83 (by decide) _
            have y313 : dt301 83 ((4 * (dt 79 10)) + 2).toNat = (u2 dt264 83 (((4 * (dt264 79 10)) + 1).toNat) (dt264 79 11)) 83 ((4 * (dt 79 10)) + 2).toNat := hF303 83 (by decide) _
            have y314 : dt301 83 ((4 * (dt 79 10)) + 3).toNat = (u2 dt264 83 (((4 * (dt264 79 10)) + 1).toNat) (dt264 79 11)) 83 ((4 * (dt 79 10)) + 3).toNat := hF303 83 (by decide) _
            have r315 : 0 ≤ dt301 79 10 ∧ dt301 79 10 ≤ 24 := InvC_get hI302 79 10 rfl rfl
            have r316 : 0 ≤ dt301 79 11 ∧ dt301 79 11 ≤ 510 := InvC_get hI302 79 11 rfl rfl
            refine go_to (k := 11) (pc' := 145) (L' := [some (.inr (.inr (some 79))), some (.inl 1)]) (st' := [.inl (dt301 79 11), .inl ((4 * (dt301 79 10)) + 2), .inr (.inr (some 83))]) (w' := (SH, dt301)) (fun _ => rfl) ?_
            have hI317 : InvC (u2 dt301 83 (((4 * (dt301 79 10)) + 2).toNat) (dt301 79 11)) := InvC_u2 hI302 (lo := -2147483648) (hi := 2147483647) rfl rfl rfl (by omega) (by omega)
            have hF318 : Fr [79, 83, 84] dt (u2 dt301 83 (((4 * (dt301 79 10)) + 2).toNat) (dt301 79 11)) := Fr_u2 hF304 (by decide)
            have w319 : (u2 dt301 83 (((4 * (dt301 79 10)) + 2).toNat) (dt301 79 11)) 79 2 = dt301 79 2 := rfl
            have w320 : (u2 dt301 83 (((4 * (dt301 79 10)) + 2).toNat) (dt301 79 11)) 79 9 = dt301 79 9 := rfl
            have w321 : (u2 dt301 83 (((4 * (dt301 79 10)) + 2).toNat) (dt301 79 11)) 79 10 = dt301 79 10 := rfl
            have w322 : (u2 dt301 83 (((4 * (dt301 79 10)) + 2).toNat) (dt301 79 11)) 79 11 = dt301 79 11 := rfl
            have w323 : (u2 dt301 83 (((4 * (dt301 79 10)) + 2).toNat) (dt301 79 11)) 79 12 = dt301 79 12 := rfl
            have w324 : (u2 dt301 83 (((4 * (dt301 79 10)) + 2).toNat) (dt301 79 11)) 79 13 = dt301 79 13 := rfl
            have w325 : (u2 dt301 83 (((4 * (dt301 79 10)) + 2).toNat) (dt301 79 11)) 79 14 = dt301 79 14 := rfl
            have w326 : (u2 dt301 83 (((4 * (dt301 79 10)) + 2).toNat) (dt301 79 11)) 79 15 = dt301 79 15 := rfl
            have w327 : (u2 dt301 83 (((4 * (dt301 79 10)) + 2).toNat) (dt301 79 11)) 79 16 = dt301 79 16 := rfl
            have w328 : (u2 dt301 83 (((4 * (dt301 79 10)) + 2).toNat) (dt301 79 11)) 79 20 = dt301 79 20 := rfl
            have E84329 : (u2 dt301 83 (((4 * (dt301 79 10)) + 2).toNat) (dt301 79 11)) 84 = dt301 84 := funext fun _ => u2_ne (by omega)
            have ex331 : ((4 * (dt 79 10)) + 2).toNat = ((4 * (dt301 79 10)) + 2).toNat := by omega
            have BL330 : ∀ j : Nat, (j : Int) < 4 * dt 79 10 → (u2 dt301 83 (((4 * (dt301 79 10)) + 2).toNat) (dt301 79 11)) 83 j = dt 83 j := fun j hj => (u2_ne (by omega)).trans (BL310 j hj)
            have y332 : (u2 dt301 83 (((4 * (dt301 79 10)) + 2).toNat) (dt301 79 11)) 83 ((4 * (dt 79 10))).toNat = dt301 83 ((4 * (dt 79 10))).toNat := u2_ne (by omega)
            have y333 : (u2 dt301 83 (((4 * (dt301 79 10)) + 2).toNat) (dt301 79 11)) 83 ((4 * (dt 79 10)) + 1).toNat = dt301 83 ((4 * (dt 79 10)) + 1).toNat := u2_ne (by omega)
            have y334 : (u2 dt301 83 (((4 * (dt301 79 10)) + 2).toNat) (dt301 79 11)) 83 ((4 * (dt 79 10)) + 2).toNat = dt301 79 11 := by rw [ex331]; exact u2_eq
            have y335 : (u2 dt301 83 (((4 * (dt301 79 10)) + 2).toNat) (dt301 79 11)) 83 ((4 * (dt 79 10)) + 3).toNat = dt301 83 ((4 * (dt 79 10)) + 3).toNat := u2_ne (by omega)
            refine go_smp (L' := [some (.inr (.inr (some 79))), some (.inl 1)]) (st' := []) (w' := (SH, (u2 dt301 83 (((4 * (dt301 79 10)) + 2).toNat) (dt301 79 11)))) rfl rfl (s_iast (n := 64) rfl ⟨by omega, by omega⟩ ⟨by omega, by omega⟩) ?_
            have r336 : (-2147483648) ≤ dt301 79 14 ∧ dt301 79 14 ≤ 2147483647 := InvC_get hI302 79 14 rfl rfl
            refine go_if (k := 4) (p1 := 167) (p2 := 154) (L' := [some (.inr (.inr (some 79))), some (.inl 1)]) (st' := []) (w' := (SH, (u2 dt301 83 (((4 * (dt301 79 10)) + 2).toNat) (dt301 79 11)))) (fun _ => rfl) (c_ne (a := dt301 79 14) (b := 3) ⟨by omega, by omega⟩ ⟨by omega, by omega⟩) (fun c337 => ?_) (fun c337 => ?_)
            · skip
              refine go_to (k := 10) (pc' := 183) (L' := [some (.inr (.inr (some 79))), some (.inl 1)]) (st' := [.inl (dt301 79 11), .inl ((4 * (dt301 79 10)) + 3), .inr (.inr (some 83))]) (w' := (SH, (u2 dt301 83 (((4 * (dt301 79 10)) + 2).toNat) (dt301 79 11)))) (fun _ => rfl) ?_
              have hI338 : InvC (u2 (u2 dt301 83 (((4 * (dt301 79 10)) + 2).toNat) (dt301 79 11)) 83 (((4 * (dt301 79 10)) + 3).toNat) (dt301 79 11)) := InvC_u2 hI317 (lo := -2147483648) (hi := 2147483647) rfl rfl rfl (by omega) (by omega)
              have hF339 : Fr [79, 83, 84] dt (u2 (u2 dt301 83 (((4 * (dt301 79 10)) + 2).toNat) (dt301 79 11)) 83 (((4 * (dt301 79 10)) + 3).toNat) (dt301 79 11)) := Fr_u2 hF318 (by decide)
              have w340 : (u2 (u2 dt301 83 (((4 * (dt301 79 10)) + 2).toNat) (dt301 79 11)) 83 (((4 * (dt301 79 10)) + 3).toNat) (dt301 79 11)) 79 2 = (u2 dt301 83 (((4 * (dt301 79 10)) + 2).toNat) (dt301 79 11)) 79 2 := rfl
              have w341 : (u2 (u2 dt301 83 (((4 * (dt301 79 10)) + 2).toNat) (dt301 79 11)) 83 (((4 * (dt301 79 10)) + 3).toNat) (dt301 79 11)) 79 9 = (u2 dt301 83 (((4 * (dt301 79 10)) + 2).toNat) (dt301 79 11)) 79 9 := rfl
              have w342 : (u2 (u2 dt301 83 (((4 * (dt301 79 10)) + 2).toNat) (dt301 79 11)) 83 (((4 * (dt301 79 10)) + 3).toNat) (dt301 79 11)) 79 10 = (u2 dt301 83 (((4 * (dt301 79 10)) + 2).toNat) (dt301 79 11)) 79 10 := rfl
              have w343 : (u2 (u2 dt301 83 (((4 * (dt301 79 10)) + 2).toNat) (dt301 79 11)) 83 (((4 * (dt301 79 10)) + 3).toNat) (dt301 79 11)) 79 11 = (u2 dt301 83 (((4 * (dt301 79 10)) + 2).toNat) (dt301 79 11)) 79 11 := rfl
              have w344 : (u2 (u2 dt301 83 (((4 * (dt301 79 10)) + 2).toNat) (dt301 79 11)) 83 (((4 * (dt301 79 10)) + 3).toNat) (dt301 79 11)) 79 12 = (u2 dt301 83 (((4 * (dt301 79 10)) + 2).toNat) (dt301 79 11)) 79 12 := rfl
              have w345 : (u2 (u2 dt301 83 (((4 * (dt301 79 10)) + 2).toNat) (dt301 79 11)) 83 (((4 * (dt301 79 10)) + 3).toNat) (dt301 79 11)) 79 13 = (u2 dt301 83 (((4 * (dt301 79 10)) + 2).toNat) (dt301 79 11)) 79 13 := rfl
              have w346 : (u2 (u2 dt301 83 (((4 * (dt301 79 10)) + 2).toNat) (dt301 79 11)) 83 (((4 * (dt301 79 10)) + 3).toNat) (dt301 79 11)) 79 14 = (u2 dt301 83 (((4 * (dt301 79 10)) + 2).toNat) (dt301 79 11)) 79 14 := rfl
              have w347 : (u2 (u2 dt301 83 (((4 * (dt301 79 10)) + 2).toNat) (dt301 79 11)) 83 (((4 * (dt301 79 10)) + 3).toNat) (dt301 79 11)) 79 15 = (u2 dt301 83 (((4 * (dt301 79 10)) + 2).toNat) (dt301 79 11)) 79 15 := rfl
              have w348 : (u2 (u2 dt301 83 (((4 * (dt301 79 10)) + 2).toNat) (dt301 79 11)) 83 (((4 * (dt301 79 10)) + 3).toNat) (dt301 79 11)) 79 16 = (u2 dt301 83 (((4 * (dt301 79 10)) + 2).toNat) (dt301 79 11)) 79 16 := rfl
              have w349 : (u2 (u2 dt301 83 (((4 * (dt301 79 10)) + 2).toNat) (dt301 79 11)) 83 (((4 * (dt301 79 10)) + 3).toNat) (dt301 79 11)) 79 20 = (u2 dt301 83 (((4 * (dt301 79 10)) + 2).toNat) (dt301 79 11)) 79 20 := rfl
              have E84350 : (u2 (u2 dt301 83 (((4 * (dt301 79 10)) + 2).toNat) (dt301 79 11)) 83 (((4 * (dt301 79 10)) + 3).toNat) (dt301 79 11)) 84 = dt301 84 := (funext fun _ => u2_ne (by omega)).trans E84329
              have ex352 : ((4 * (dt 79 10)) + 3).toNat = ((4 * (dt301 79 10)) + 3).toNat := by omega
              have BL351 : ∀ j : Nat, (j : Int) < 4 * dt 79 10 → (u2 (u2 dt301 83 (((4 * (dt301 79 10)) + 2).toNat) (dt301 79 11)) 83 (((4 * (dt301 79 10)) + 3).toNat) (dt301 79 11)) 83 j = dt 83 j := fun j hj => (u2_ne (by omega)).trans (BL330 j hj)
              have y353 : (u2 (u2 dt301 83 (((4 * (dt301 79 10)) + 2).toNat) (dt301 79 11)) 83 (((4 * (dt301 79 10)) + 3).toNat) (dt301 79 11)) 83 ((4 * (dt 79 10))).toNat = (u2 dt301 83 (((4 * (dt301 79 10)) + 2).toNat) (dt301 79 11)) 83 ((4 * (dt 79 10))).toNat := u2_ne (by omega)
              have y354 : (u2 (u2 dt301 83 (((4 * (dt301 79 10)) + 2).toNat) (dt301 79 11)) 83 (((4 * (dt301 79 10)) + 3).toNat) (dt301 79 11)) 83 ((4 * (dt 79 10)) + 1).toNat = (u2 dt301 83 (((4 * (dt301 79 10)) + 2).toNat) (dt301 79 11)) 83 ((4 * (dt 79 10)) + 1).toNat := u2_ne (by omega)
              have y355 : (u2 (u2 dt301 83 (((4 * (dt301 79 10)) + 2).toNat) (dt301 79 11)) 83 (((4 * (dt301 79 10)) + 3).toNat) (dt301 79 11)) 83 ((4 * (dt 79 10)) + 2).toNat = (u2 dt301 83 (((4 * (dt301 79 10)) + 2).toNat) (dt301 79 11)) 83 ((4 * (dt 79 10)) + 2).toNat := u2_ne (by omega)
              have y356 : (u2 (u2 dt301 83 (((4 * (dt301 79 10)) + 2).toNat) (dt301 79 11)) 83 (((4 * (dt301 79 10)) + 3).toNat) (dt301 79 11)) 83 ((4 * (dt 79 10)) + 3).toNat = dt301 79 11 := by rw [ex352]; exact u2_eq
              refine go_smp (L' := [some (.inr (.inr (some 79))), some (.inl 1)]) (st' := []) (w' := (SH, (u2 (u2 dt301 83 (((4 * (dt301 79 10)) + 2).toNat) (dt301 79 11)) 83 (((4 * (dt301 79 10)) + 3).toNat) (dt301 79 11)))) rfl rfl (s_iast (n := 64) rfl ⟨by omega, by omega⟩ ⟨by omega, by omega⟩) ?_
              refine go_to (k := 2) (pc' := 188) (L' := [some (.inr (.inr (some 79))), some (.inl 1)]) (st' := [.inl 159, .inr (.inr (some 79))]) (w' := (SH, (u2 (u2 dt301 83 (((4 * (dt301 79 10)) + 2).toNat) (dt301 79 11)) 83 (((4 * (dt301 79 10)) + 3).toNat) (dt301 79 11)))) (fun _ => rfl) ?_
              refine go_call (Q' := _) rfl rfl rfl rfl rfl (sp_X6_need0 L xs sio (d + 29) (u2 (u2 dt301 83 (((4 * (dt301 79 10)) + 2).toNat) (dt301 79 11)) 83 (((4 * (dt301 79 10)) + 3).toNat) (dt301 79 11)) hI338  159 ⟨by omega, by omega⟩ (by first | trivial | omega)) ?_
              rintro _ _ ⟨dt358, rfl, hI359, hF360, h357⟩
              refine ⟨rfl, ?_⟩
              have hF361 : Fr [79, 83, 84] dt dt358 := Fr_tr hF339 hF360 (by decide)
              have E84362 : dt358 84 = dt301 84 := (funext (hF360 84 (by decide))).trans E84350
              rcases h357 with ⟨rfl, h357⟩ | ⟨rfl, h357⟩
              · skip
                obtain ⟨h357_0, h357_1, h357_2, h357_3⟩ := h357
                have BL363 : ∀ j : Nat, (j : Int) < 4 * dt 79 10 → dt358 83 j = dt 83 j := fun j hj => (hF360 83 (by decide) j).trans (BL351 j hj)
                have y364 : dt358 83 ((4 * (dt 79 10))).toNat = (u2 (u2 dt301 83 (((4 * (dt301 79 10)) + 2).toNat) (dt301 79 11)) 83 (((4 * (dt301 79 10)) + 3).toNat) (dt301 79 11)) 83 ((4 * (dt 79 10))).toNat := hF360 83 (by decide) _
                have y365 : dt358 83 ((4 * (dt 79 10)) + 1).toNat = (u2 (u2 dt301 83 (((4 * (dt301 79 10)) + 2).toNat) (dt301 79 11)) 83 (((4 * (dt301 79 10)) + 3).toNat) (dt301 79 11)) 83 ((4 * (dt 79 10)) + 1).toNat := hF360 83 (by decide) _
                have y366 : dt358 83 ((4 * (dt 79 10)) + 2).toNat = (u2 (u2 dt301 83 (((4 * (dt301 79 10)) + 2).toNat) (dt301 79 11)) 83 (((4 * (dt301 79 10)) + 3).toNat) (dt301 79 11)) 83 ((4 * (dt 79 10)) + 2).toNat := hF360 83 (by decide) _
                have y367 : dt358 83 ((4 * (dt 79 10)) + 3).toNat = (u2 (u2 dt301 83 (((4 * (dt301 79 10)) + 2).toNat) (dt301 79 11)) 83 (((4 * (dt301 79 10)) + 3).toNat) (dt301 79 11)) 83 ((4 * (dt 79 10)) + 3).toNat := hF360 83 (by decide) _
                refine go_ret (k := 1) (r := some (.inl 0)) (w1 := (SH, dt358)) (fun _ => rfl) ?_
                exact ⟨dt358, rfl, hI359, hF361, (Or.inl ⟨rfl, ⟨by first | trivial | omega, by first | trivial | omega, by first | trivial | omega⟩⟩)⟩
              · skip
                obtain ⟨h357_0, h357_1, h357_2, h357_3, h357_4, h357_5, h357_6, h357_7, h357_8⟩ := h357
                have BL368 : ∀ j : Nat, (j : Int) < 4 * dt 79 10 → dt358 83 j = dt 83 j := fun j hj => (hF360 83 (by decide) j).trans (BL351 j hj)
                have y369 : dt358 83 ((4 * (dt 79 10))).toNat = (u2 (u2 dt301 83 (((4 * (dt301 79 10)) + 2).toNat) (dt301 79 11)) 83 (((4 * (dt301 79 10)) + 3).toNat) (dt301 79 11)) 83 ((4 * (dt 79 10))).toNat := hF360 83 (by decide) _
                have y370 : dt358 83 ((4 * (dt 79 10)) + 1).toNat = (u2 (u2 dt301 83 (((4 * (dt301 79 10)) + 2).toNat) (dt301 79 11)) 83 (((4 * (dt301 79 10)) + 3).toNat) (dt301 79 11)) 83 ((4 * (dt 79 10)) + 1).toNat := hF360 83 (by decide) _
                have y371 : dt358 83 ((4 * (dt 79 10)) + 2).toNat = (u2 (u2 dt301 83 (((4 * (dt301 79 10)) + 2).toNat) (dt301 79 11)) 83 (((4 * (dt301 79 10)) + 3).toNat) (dt301 79 11)) 83 ((4 * (dt 79 10)) + 2).toNat := hF360 83 (by decide) _
                have y372 : dt358 83 ((4 * (dt 79 10)) + 3).toNat = (u2 (u2 dt301 83 (((4 * (dt301 79 10)) + 2).toNat) (dt301 79 11)) 83 (((4 * (dt301 79 10)) + 3).toNat) (dt301 79 11)) 83 ((4 * (dt 79 10)) + 3).toNat := hF360 83 (by decide) _
                refine go_ret (k := 1) (r := some (.inl 1)) (w1 := (SH, dt358)) (fun _ => rfl) ?_
                exact ⟨dt358, rfl, hI359, hF361, (Or.inr ⟨rfl, ⟨by first | trivial | omega, by exact BL368, by exact ⟨by omega, PS_fin (by assumption) (by first | exact AGR_e (by assumption) | exact AGR_e rfl | exact AGR_tr (AGR_e (by assumption)) rfl (AGR_2 (by assumption) (by assumption) (by omega)) (by omega) | exact AGR_tr (AGR_e (by assumption)) rfl (AGR_2 (by assumption) rfl (by omega)) (by omega)) (by omega) (by omega), fun _ => by first | omega | exact PS_fin (by assumption) (by first | exact AGR_e (by assumption) | exact AGR_e rfl) (by omega) (by omega)⟩, by first | assumption | exact AGR_rfl | exact AGR_4 (by assumption) (by assumption) (by first | rfl | assumption) (by omega) | exact AGR_4 (by assumption) (by assumption) (by assumption) (by omega) | exact AGR_e (by assumption) | exact AGR_2 (by assumption) (by first | rfl | assumption) (by omega) | exact AGR_2 (by assumption) (by assumption) (by omega) | exact AGR_tr (by assumption) (by first | assumption | rfl) (by assumption) (by omega) | exact AGR_tr (by assumption) (by first | assumption | rfl) (AGR_tr (by assumption) (by first | assumption | rfl) (by assumption) (by omega)) (by omega) | exact AGR_tr (by assumption) (by first | assumption | rfl) (AGR_2 (by assumption) (by first | assumption | rfl) (by omega)) (by omega) | exact AGR_tr (by assumption) (by first | assumption | rfl) (AGR_tr (by assumption) (by first | assumption | rfl) (AGR_2 (by assumption) (by first | assumption | rfl) (by omega)) (by omega)) (by omega), by first | trivial | omega, by first | trivial | omega, by first | trivial | omega, by first | trivial | omega, by exact (InvC_get (by assumption) 79 15 rfl rfl).2, by first | trivial | omega, by first | trivial | omega, by first | trivial | omega, by first | trivial | omega⟩⟩)⟩
            · skip
              refine go_to (k := 1) (pc' := 155) (L' := [some (.inr (.inr (some 79))), some (.inl 1)]) (st' := [.inr (.inr (some 79))]) (w' := (SH, (u2 dt301 83 (((4 * (dt301 79 10)) + 2).toNat) (dt301 79 11)))) (fun _ => rfl) ?_
              refine go_call (Q' := _) rfl rfl rfl rfl rfl (sp_X6_next0 L xs sio (d + 30) (u2 dt301 83 (((4 * (dt301 79 10)) + 2).toNat) (dt301 79 11)) hI317   (by first | trivial | omega)) ?_
              rintro _ _ ⟨dt374, rfl, hI375, hF376, h373⟩
              refine ⟨rfl, ?_⟩
              have hF377 : Fr [79, 83, 84] dt dt374 := Fr_tr hF318 hF376 (by decide)
              have E84378 : dt374 84 = dt301 84 := (funext (hF376 84 (by decide))).trans E84329
              rcases h373 with ⟨rfl, h373⟩
              obtain ⟨h373_0, h373_1, h373_2, h373_3, h373_4, h373_5, h373_6, h373_7, h373_8⟩ := h373
              have BL379 : ∀ j : Nat, (j : Int) < 4 * dt 79 10 → dt374 83 j = dt 83 j := fun j hj => (hF376 83 (by decide) j).trans (BL330 j hj)
              have y380 : dt374 83 ((4 * (dt 79 10))).toNat = (u2 dt301 83 (((4 * (dt301 79 10)) + 2).toNat) (dt301 79 11)) 83 ((4 * (dt 79 10))).toNat := hF376 83 (by decide) _
              have y381 : dt374 83 ((4 * (dt 79 10)) + 1).toNat = (u2 dt301 83 (((4 * (dt301 79 10)) + 2).toNat) (dt301 79 11)) 83 ((4 * (dt 79 10)) + 1).toNat := hF376 83 (by decide) _
              have y382 : dt374 83 ((4 * (dt 79 10)) + 2).toNat = (u2 dt301 83 (((4 * (dt301 79 10)) + 2).toNat) (dt301 79 11)) 83 ((4 * (dt 79 10)) + 2).toNat := hF376 83 (by decide) _
              have y383 : dt374 83 ((4 * (dt 79 10)) + 3).toNat = (u2 dt301 83 (((4 * (dt301 79 10)) + 2).toNat) (dt301 79 11)) 83 ((4 * (dt 79 10)) + 3).toNat := hF376 83 (by decide) _
              refine go_to (k := 1) (pc' := 159) (L' := [some (.inr (.inr (some 79))), some (.inl 1)]) (st' := [.inr (.inr (some 79))]) (w' := (SH, dt374)) (fun _ => rfl) ?_
              refine go_call (Q' := _) rfl rfl rfl rfl rfl (sp_X6_any_0 L xs sio (d + 0) dt374 hI375   (by first | trivial | omega) (by first | trivial | omega) (by first | trivial | omega)) ?_
              rintro _ _ ⟨dt385, rfl, hI386, hF387, h384⟩
              refine ⟨rfl, ?_⟩
              have hF388 : Fr [79, 83, 84] dt dt385 := Fr_tr hF377 hF387 (by decide)
              rcases h384 with ⟨rfl, h384⟩ | ⟨rfl, h384⟩
              · skip
                obtain ⟨h384_0, h384_1, h384_2, h384_3⟩ := h384
                have BL389 : ∀ j : Nat, (j : Int) < 4 * dt 79 10 → dt385 83 j = dt 83 j := fun j hj => (hF387 83 (by decide) j).trans (BL379 j hj)
                have y390 : dt385 83 ((4 * (dt 79 10))).toNat = dt374 83 ((4 * (dt 79 10))).toNat := hF387 83 (by decide) _
                have y391 : dt385 83 ((4 * (dt 79 10)) + 1).toNat = dt374 83 ((4 * (dt 79 10)) + 1).toNat := hF387 83 (by decide) _
                have y392 : dt385 83 ((4 * (dt 79 10)) + 2).toNat = dt374 83 ((4 * (dt 79 10)) + 2).toNat := hF387 83 (by decide) _
                have y393 : dt385 83 ((4 * (dt 79 10)) + 3).toNat = dt374 83 ((4 * (dt 79 10)) + 3).toNat := hF387 83 (by decide) _
                refine go_ret (k := 3) (r := some (.inl 0)) (w1 := (SH, dt385)) (fun _ => rfl) ?_
                exact ⟨dt385, rfl, hI386, hF388, (Or.inl ⟨rfl, ⟨by first | trivial | omega, by first | trivial | omega, by first | trivial | omega⟩⟩)⟩
              · skip
                obtain ⟨h384_0, h384_1, h384_2, h384_3, h384_4, h384_5, h384_6, h384_7, h384_8, h384_9, h384_10⟩ := h384
                have BL394 : ∀ j : Nat, (j : Int) < 4 * dt 79 10 → dt385 83 j = dt 83 j := fun j hj => (hF387 83 (by decide) j).trans (BL379 j hj)
                have y395 : dt385 83 ((4 * (dt 79 10))).toNat = dt374 83 ((4 * (dt 79 10))).toNat := hF387 83 (by decide) _
                have y396 : dt385 83 ((4 * (dt 79 10)) + 1).toNat = dt374 83 ((4 * (dt 79 10)) + 1).toNat := hF387 83 (by decide) _
                have y397 : dt385 83 ((4 * (dt 79 10)) + 2).toNat = dt374 83 ((4 * (dt 79 10)) + 2).toNat := hF387 83 (by decide) _
                have y398 : dt385 83 ((4 * (dt 79 10)) + 3).toNat = dt374 83 ((4 * (dt 79 10)) + 3).toNat := hF387 83 (by decide) _
                have r399 : 0 ≤ dt385 79 10 ∧ dt385 79 10 ≤ 24 := InvC_get hI386 79 10 rfl rfl
                have r400 : 0 ≤ dt385 79 11 ∧ dt385 79 11 ≤ 510 := InvC_get hI386 79 11 rfl rfl
                refine go_to (k := 11) (pc' := 183) (L' := [some (.inr (.inr (some 79))), some (.inl 1)]) (st' := [.inl (dt385 79 11), .inl ((4 * (dt385 79 10)) + 3), .inr (.inr (some 83))]) (w' := (SH, dt385)) (fun _ => rfl) ?_
                have hI401 : InvC (u2 dt385 83 (((4 * (dt385 79 10)) + 3).toNat) (dt385 79 11)) := InvC_u2 hI386 (lo := -2147483648) (hi := 2147483647) rfl rfl rfl (by omega) (by omega)
                have hF402 : Fr [79, 83, 84] dt (u2 dt385 83 (((4 * (dt385 79 10)) + 3).toNat) (dt385 79 11)) := Fr_u2 hF388 (by decide)
                have w403 : (u2 dt385 83 (((4 * (dt385 79 10)) + 3).toNat) (dt385 79 11)) 79 2 = dt385 79 2 := rfl
                have w404 : (u2 dt385 83 (((4 * (dt385 79 10)) + 3).toNat) (dt385 79 11)) 79 9 = dt385 79 9 := rfl
                have w405 : (u2 dt385 83 (((4 * (dt385 79 10)) + 3).toNat) (dt385 79 11)) 79 10 = dt385 79 10 := rfl
                have w406 : (u2 dt385 83 (((4 * (dt385 79 10)) + 3).toNat) (dt385 79 11)) 79 11 = dt385 79 11 := rfl
                have w407 : (u2 dt385 83 (((4 * (dt385 79 10)) + 3).toNat) (dt385 79 11)) 79 12 = dt385 79 12 := rfl
                have w408 : (u2 dt385 83 (((4 * (dt385 79 10)) + 3).toNat) (dt385 79 11)) 79 13 = dt385 79 13 := rfl
                have w409 : (u2 dt385 83 (((4 * (dt385 79 10)) + 3).toNat) (dt385 79 11)) 79 14 = dt385 79 14 := rfl
                have w410 : (u2 dt385 83 (((4 * (dt385 79 10)) + 3).toNat) (dt385 79 11)) 79 15 = dt385 79 15 := rfl
                have w411 : (u2 dt385 83 (((4 * (dt385 79 10)) + 3).toNat) (dt385 79 11)) 79 16 = dt385 79 16 := rfl
                have w412 : (u2 dt385 83 (((4 * (dt385 79 10)) + 3).toNat) (dt385 79 11)) 79 20 = dt385 79 20 := rfl
                have E84413 : (u2 dt385 83 (((4 * (dt385 79 10)) + 3).toNat) (dt385 79 11)) 84 = dt385 84 := funext fun _ => u2_ne (by omega)
                have ex415 : ((4 * (dt 79 10)) + 3).toNat = ((4 * (dt385 79 10)) + 3).toNat := by omega
                have BL414 : ∀ j : Nat, (j : Int) < 4 * dt 79 10 → (u2 dt385 83 (((4 * (dt385 79 10)) + 3).toNat) (dt385 79 11)) 83 j = dt 83 j := fun j hj => (u2_ne (by omega)).trans (BL394 j hj)
                have y416 : (u2 dt385 83 (((4 * (dt385 79 10)) + 3).toNat) (dt385 79 11)) 83 ((4 * (dt 79 10))).toNat = dt385 83 ((4 * (dt 79 10))).toNat := u2_ne (by omega)
                have y417 : (u2 dt385 83 (((4 * (dt385 79 10)) + 3).toNat) (dt385 79 11)) 83 ((4 * (dt 79 10)) + 1).toNat = dt385 83 ((4 * (dt 79 10)) + 1).toNat := u2_ne (by omega)
                have y418 : (u2 dt385 83 (((4 * (dt385 79 10)) + 3).toNat) (dt385 79 11)) 83 ((4 * (dt 79 10)) + 2).toNat = dt385 83 ((4 * (dt 79 10)) + 2).toNat := u2_ne (by omega)
                have y419 : (u2 dt385 83 (((4 * (dt385 79 10)) + 3).toNat) (dt385 79 11)) 83 ((4 * (dt 79 10)) + 3).toNat = dt385 79 11 := by rw [ex415]; exact u2_eq
                refine go_smp (L' := [some (.inr (.inr (some 79))), some (.inl 1)]) (st' := []) (w' := (SH, (u2 dt385 83 (((4 * (dt385 79 10)) + 3).toNat) (dt385 79 11)))) rfl rfl (s_iast (n := 64) rfl ⟨by omega, by omega⟩ ⟨by omega, by omega⟩) ?_
                refine go_to (k := 2) (pc' := 188) (L' := [some (.inr (.inr (some 79))), some (.inl 1)]) (st' := [.inl 159, .inr (.inr (some 79))]) (w' := (SH, (u2 dt385 83 (((4 * (dt385 79 10)) + 3).toNat) (dt385 79 11)))) (fun _ => rfl) ?_
                refine go_call (Q' := _) rfl rfl rfl rfl rfl (sp_X6_need0 L xs sio (d + 29) (u2 dt385 83 (((4 * (dt385 79 10)) + 3).toNat) (dt385 79 11)) hI401  159 ⟨by omega, by omega⟩ (by first | trivial | omega)) ?_
                rintro _ _ ⟨dt421, rfl, hI422, hF423, h420⟩
                refine ⟨rfl, ?_⟩
                have hF424 : Fr [79, 83, 84] dt dt421 := Fr_tr hF402 hF423 (by decide)
                have E84425 : dt421 84 = dt385 84 := (funext (hF423 84 (by decide))).trans E84413
                rcases h420 with ⟨rfl, h420⟩ | ⟨rfl, h420⟩
                · skip
                  obtain ⟨h420_0, h420_1, h420_2, h420_3⟩ := h420
                  have BL426 : ∀ j : Nat, (j : Int) < 4 * dt 79 10 → dt421 83 j = dt 83 j := fun j hj => (hF423 83 (by decide) j).trans (BL414 j hj)
                  have y427 : dt421 83 ((4 * (dt 79 10))).toNat = (u2 dt385 83 (((4 * (dt385 79 10)) + 3).toNat) (dt385 79 11)) 83 ((4 * (dt 79 10))).toNat := hF423 83 (by decide) _
                  have y428 : dt421 83 ((4 * (dt 79 10)) + 1).toNat = (u2 dt385 83 (((4 * (dt385 79 10)) + 3).toNat) (dt385 79 11)) 83 ((4 * (dt 79 10)) + 1).toNat := hF423 83 (by decide) _
                  have y429 : dt421 83 ((4 * (dt 79 10)) + 2).toNat = (u2 dt385 83 (((4 * (dt385 79 10)) + 3).toNat) (dt385 79 11)) 83 ((4 * (dt 79 10)) + 2).toNat := hF423 83 (by decide) _
                  have y430 : dt421 83 ((4 * (dt 79 10)) + 3).toNat = (u2 dt385 83 (((4 * (dt385 79 10)) + 3).toNat) (dt385 79 11)) 83 ((4 * (dt 79 10)) + 3).toNat := hF423 83 (by decide) _
                  refine go_ret (k := 1) (r := some (.inl 0)) (w1 := (SH, dt421)) (fun _ => rfl) ?_
                  exact ⟨dt421, rfl, hI422, hF424, (Or.inl ⟨rfl, ⟨by first | trivial | omega, by first | trivial | omega, by first | trivial | omega⟩⟩)⟩
                · skip
                  obtain ⟨h420_0, h420_1, h420_2, h420_3, h420_4, h420_5, h420_6, h420_7, h420_8⟩ := h420
                  have BL431 : ∀ j : Nat, (j : Int) < 4 * dt 79 10 → dt421 83 j = dt 83 j := fun j hj => (hF423 83 (by decide) j).trans (BL414 j hj)
                  have y432 : dt421 83 ((4 * (dt 79 10))).toNat = (u2 dt385 83 (((4 * (dt385 79 10)) + 3).toNat) (dt385 79 11)) 83 ((4 * (dt 79 10))).toNat := hF423 83 (by decide) _
                  have y433 : dt421 83 ((4 * (dt 79 10)) + 1).toNat = (u2 dt385 83 (((4 * (dt385 79 10)) + 3).toNat) (dt385 79 11)) 83 ((4 * (dt 79 10)) + 1).toNat := hF423 83 (by decide) _
                  have y434 : dt421 83 ((4 * (dt 79 10)) + 2).toNat = (u2 dt385 83 (((4 * (dt385 79 10)) + 3).toNat) (dt385 79 11)) 83 ((4 * (dt 79 10)) + 2).toNat := hF423 83 (by decide) _
                  have y435 : dt421 83 ((4 * (dt 79 10)) + 3).toNat = (u2 dt385 83 (((4 * (dt385 79 10)) + 3).toNat) (dt385 79 11)) 83 ((4 * (dt 79 10)) + 3).toNat := hF423 83 (by decide) _
                  refine go_ret (k := 1) (r := some (.inl 1)) (w1 := (SH, dt421)) (fun _ => rfl) ?_
                  exact ⟨dt421, rfl, hI422, hF424, (Or.inr ⟨rfl, ⟨by first | trivial | omega, by exact BL431, by exact ⟨by omega, PS_fin (by assumption) (by first | exact AGR_e (by assumption) | exact AGR_e rfl | exact AGR_tr (AGR_e (by assumption)) rfl (AGR_2 (by assumption) (by assumption) (by omega)) (by omega) | exact AGR_tr (AGR_e (by assumption)) rfl (AGR_2 (by assumption) rfl (by omega)) (by omega)) (by omega) (by omega), fun _ => by first | omega | exact PS_fin (by assumption) (by first | exact AGR_e (by assumption) | exact AGR_e rfl) (by omega) (by omega)⟩, by first | assumption | exact AGR_rfl | exact AGR_4 (by assumption) (by assumption) (by first | rfl | assumption) (by omega) | exact AGR_4 (by assumption) (by assumption) (by assumption) (by omega) | exact AGR_e (by assumption) | exact AGR_2 (by assumption) (by first | rfl | assumption) (by omega) | exact AGR_2 (by assumption) (by assumption) (by omega) | exact AGR_tr (by assumption) (by first | assumption | rfl) (by assumption) (by omega) | exact AGR_tr (by assumption) (by first | assumption | rfl) (AGR_tr (by assumption) (by first | assumption | rfl) (by assumption) (by omega)) (by omega) | exact AGR_tr (by assumption) (by first | assumption | rfl) (AGR_2 (by assumption) (by first | assumption | rfl) (by omega)) (by omega) | exact AGR_tr (by assumption) (by first | assumption | rfl) (AGR_tr (by assumption) (by first | assumption | rfl) (AGR_2 (by assumption) (by first | assumption | rfl) (by omega)) (by omega)) (by omega), by first | trivial | omega, by first | trivial | omega, by first | trivial | omega, by first | trivial | omega, by exact (InvC_get (by assumption) 79 15 rfl rfl).2, by first | trivial | omega, by first | trivial | omega, by first | trivial | omega, by first | trivial | omega⟩⟩)⟩
    · skip
      refine go_to (k := 2) (pc' := 35) (L' := [some (.inr (.inr (some 79))), none]) (st' := [.inl 3, .inr (.inr (some 79))]) (w' := (SH, dt)) (fun _ => rfl) ?_
      refine go_call (Q' := _) rfl rfl rfl rfl rfl (sp_X6_bad L xs sio (d + 36) dt hI  3 ⟨by omega, by omega⟩ ) ?_
      rintro _ _ ⟨dt437, rfl, hI438, hF439, h436⟩
      refine ⟨rfl, ?_⟩
      have hF440 : Fr [79, 83, 84] dt dt437 := Fr_tr hF hF439 (by decide)
      have E84441 : dt437 84 = dt 84 := funext (hF439 84 (by decide))
      rcases h436 with ⟨rfl, h436⟩
      obtain ⟨h436_0, h436_1, h436_2, h436_3, h436_4, h436_5⟩ := h436
      have BL442 : ∀ j : Nat, (j : Int) < 4 * dt 79 10 → dt437 83 j = dt 83 j := fun j hj => (hF439 83 (by decide) j).trans ((fun _ _ => rfl) j hj)
      have y443 : dt437 83 ((4 * (dt 79 10))).toNat = dt 83 ((4 * (dt 79 10))).toNat := hF439 83 (by decide) _
      have y444 : dt437 83 ((4 * (dt 79 10)) + 1).toNat = dt 83 ((4 * (dt 79 10)) + 1).toNat := hF439 83 (by decide) _
      have y445 : dt437 83 ((4 * (dt 79 10)) + 2).toNat = dt 83 ((4 * (dt 79 10)) + 2).toNat := hF439 83 (by decide) _
      have y446 : dt437 83 ((4 * (dt 79 10)) + 3).toNat = dt 83 ((4 * (dt 79 10)) + 3).toNat := hF439 83 (by decide) _
      refine go_ret (k := 1) (r := some (.inl 0)) (w1 := (SH, dt437)) (fun _ => rfl) ?_
      exact ⟨dt437, rfl, hI438, hF440, (Or.inl ⟨rfl, ⟨by first | trivial | omega, by first | trivial | omega, by first | trivial | omega⟩⟩)⟩
  · skip
    refine go_if (k := 4) (p1 := 24) (p2 := 18) (L' := [some (.inr (.inr (some 79))), none]) (st' := []) (w' := (SH, dt)) (fun _ => rfl) (c_eq (a := dt 79 14) (b := 8) ⟨by omega, by omega⟩ ⟨by omega, by omega⟩) (fun c447 => ?_) (fun c447 => ?_)
    · skip
      refine go_if (k := 4) (p1 := 39) (p2 := 33) (L' := [some (.inr (.inr (some 79))), none]) (st' := []) (w' := (SH, dt)) (fun _ => rfl) (c_ne (a := dt 79 10) (b := 16) ⟨by omega, by omega⟩ ⟨by omega, by omega⟩) (fun c448 => ?_) (fun c448 => ?_)
      · skip
        refine go_if (k := 4) (p1 := 52) (p2 := 48) (L' := [some (.inr (.inr (some 79))), none]) (st' := []) (w' := (SH, dt)) (fun _ => rfl) (c_ne (a := dt 79 14) (b := 7) ⟨by omega, by omega⟩ ⟨by omega, by omega⟩) (fun c449 => ?_) (fun c449 => ?_)
        · skip
          refine go_to (k := 4) (pc' := 56) (L' := [some (.inr (.inr (some 79))), some (.inl 0)]) (st' := [.inl 0, .inr (.inr (some 79))]) (w' := (SH, dt)) (fun _ => rfl) ?_
          have hI450 : InvC (u2 dt 79 20 0) := InvC_u2 hI (lo := 0) (hi := 8) rfl rfl rfl (by omega) (by omega)
          have hF451 : Fr [79, 83, 84] dt (u2 dt 79 20 0) := Fr_u2 hF (by decide)
          have w452 : (u2 dt 79 20 0) 79 2 = dt 79 2 := rfl
          have w453 : (u2 dt 79 20 0) 79 9 = dt 79 9 := rfl
          have w454 : (u2 dt 79 20 0) 79 10 = dt 79 10 := rfl
          have w455 : (u2 dt 79 20 0) 79 11 = dt 79 11 := rfl
          have w456 : (u2 dt 79 20 0) 79 12 = dt 79 12 := rfl
          have w457 : (u2 dt 79 20 0) 79 13 = dt 79 13 := rfl
          have w458 : (u2 dt 79 20 0) 79 14 = dt 79 14 := rfl
          have w459 : (u2 dt 79 20 0) 79 15 = dt 79 15 := rfl
          have w460 : (u2 dt 79 20 0) 79 16 = dt 79 16 := rfl
          have w461 : (u2 dt 79 20 0) 79 20 = 0 := rfl
          have E84462 : (u2 dt 79 20 0) 84 = dt 84 := funext fun _ => u2_ne (by omega)
          have BL463 : ∀ j : Nat, (j : Int) < 4 * dt 79 10 → (u2 dt 79 20 0) 83 j = dt 83 j := fun j hj => (u2_ne (by omega)).trans ((fun _ _ => rfl) j hj)
          have y464 : (u2 dt 79 20 0) 83 ((4 * (dt 79 10))).toNat = dt 83 ((4 * (dt 79 10))).toNat := u2_ne (by omega)
          have y465 : (u2 dt 79 20 0) 83 ((4 * (dt 79 10)) + 1).toNat = dt 83 ((4 * (dt 79 10)) + 1).toNat := u2_ne (by omega)
          have y466 : (u2 dt 79 20 0) 83 ((4 * (dt 79 10)) + 2).toNat = dt 83 ((4 * (dt 79 10)) + 2).toNat := u2_ne (by omega)
          have y467 : (u2 dt 79 20 0) 83 ((4 * (dt 79 10)) + 3).toNat = dt 83 ((4 * (dt 79 10)) + 3).toNat := u2_ne (by omega)
          refine go_smp (L' := [some (.inr (.inr (some 79))), some (.inl 0)]) (st' := []) (w' := (SH, (u2 dt 79 20 0))) rfl rfl (s_pf rfl rfl rfl rfl ⟨by omega, by omega⟩) ?_
          refine go_to (k := 1) (pc' := 60) (L' := [some (.inr (.inr (some 79))), some (.inl 0)]) (st' := [.inr (.inr (some 79))]) (w' := (SH, (u2 dt 79 20 0))) (fun _ => rfl) ?_
          refine go_call (Q' := _) rfl rfl rfl rfl rfl (sp_X6_next0 L xs sio (d + 30) (u2 dt 79 20 0) hI450   (by first | trivial | omega)) ?_
          rintro _ _ ⟨dt469, rfl, hI470, hF471, h468⟩
          refine ⟨rfl, ?_⟩
          have hF472 : Fr [79, 83, 84] dt dt469 := Fr_tr hF451 hF471 (by decide)
          have E84473 : dt469 84 = dt 84 := (funext (hF471 84 (by decide))).trans E84462
          rcases h468 with ⟨rfl, h468⟩
          obtain ⟨h468_0, h468_1, h468_2, h468_3, h468_4, h468_5, h468_6, h468_7, h468_8⟩ := h468
          have BL474 : ∀ j : Nat, (j : Int) < 4 * dt 79 10 → dt469 83 j = dt 83 j := fun j hj => (hF471 83 (by decide) j).trans (BL463 j hj)
          have y475 : dt469 83 ((4 * (dt 79 10))).toNat = (u2 dt 79 20 0) 83 ((4 * (dt 79 10))).toNat := hF471 83 (by decide) _
          have y476 : dt469 83 ((4 * (dt 79 10)) + 1).toNat = (u2 dt 79 20 0) 83 ((4 * (dt 79 10)) + 1).toNat := hF471 83 (by decide) _
          have y477 : dt469 83 ((4 * (dt 79 10)) + 2).toNat = (u2 dt 79 20 0) 83 ((4 * (dt 79 10)) + 2).toNat := hF471 83 (by decide) _
          have y478 : dt469 83 ((4 * (dt 79 10)) + 3).toNat = (u2 dt 79 20 0) 83 ((4 * (dt 79 10)) + 3).toNat := hF471 83 (by decide) _
          have r479 : 0 ≤ dt469 79 10 ∧ dt469 79 10 ≤ 24 := InvC_get hI470 79 10 rfl rfl
          refine go_to (k := 9) (pc' := 86) (L' := [some (.inr (.inr (some 79))), some (.inl 0)]) (st' := [.inl 8, .inl (4 * (dt469 79 10)), .inr (.inr (some 83))]) (w' := (SH, dt469)) (fun _ => rfl) ?_
          have hI480 : InvC (u2 dt469 83 ((4 * (dt469 79 10)).toNat) 8) := InvC_u2 hI470 (lo := -2147483648) (hi := 2147483647) rfl rfl rfl (by omega) (by omega)
          have hF481 : Fr [79, 83, 84] dt (u2 dt469 83 ((4 * (dt469 79 10)).toNat) 8) := Fr_u2 hF472 (by decide)
          have w482 : (u2 dt469 83 ((4 * (dt469 79 10)).toNat) 8) 79 2 = dt469 79 2 := rfl
          have w483 : (u2 dt469 83 ((4 * (dt469 79 10)).toNat) 8) 79 9 = dt469 79 9 := rfl
          have w484 : (u2 dt469 83 ((4 * (dt469 79 10)).toNat) 8) 79 10 = dt469 79 10 := rfl
          have w485 : (u2 dt469 83 ((4 * (dt469 79 10)).toNat) 8) 79 11 = dt469 79 11 := rfl
          have w486 : (u2 dt469 83 ((4 * (dt469 79 10)).toNat) 8) 79 12 = dt469 79 12 := rfl
          have w487 : (u2 dt469 83 ((4 * (dt469 79 10)).toNat) 8) 79 13 = dt469 79 13 := rfl
          have w488 : (u2 dt469 83 ((4 * (dt469 79 10)).toNat) 8) 79 14 = dt469 79 14 := rfl
          have w489 : (u2 dt469 83 ((4 * (dt469 79 10)).toNat) 8) 79 15 = dt469 79 15 := rfl
          have w490 : (u2 dt469 83 ((4 * (dt469 79 10)).toNat) 8) 79 16 = dt469 79 16 := rfl
          have w491 : (u2 dt469 83 ((4 * (dt469 79 10)).toNat) 8) 79 20 = dt469 79 20 := rfl
          have E84492 : (u2 dt469 83 ((4 * (dt469 79 10)).toNat) 8) 84 = dt 84 := (funext fun _ => u2_ne (by omega)).trans E84473
          have ex494 : ((4 * (dt 79 10))).toNat = (4 * (dt469 79 10)).toNat := by omega
          have BL493 : ∀ j : Nat, (j : Int) < 4 * dt 79 10 → (u2 dt469 83 ((4 * (dt469 79 10)).toNat) 8) 83 j = dt 83 j := fun j hj => (u2_ne (by omega)).trans (BL474 j hj)
          have y495 : (u2 dt469 83 ((4 * (dt469 79 10)).toNat) 8) 83 ((4 * (dt 79 10))).toNat = 8 := by rw [ex494]; exact u2_eq
          have y496 : (u2 dt469 83 ((4 * (dt469 79 10)).toNat) 8) 83 ((4 * (dt 79 10)) + 1).toNat = dt469 83 ((4 * (dt 79 10)) + 1).toNat := u2_ne (by omega)
          have y497 : (u2 dt469 83 ((4 * (dt469 79 10)).toNat) 8) 83 ((4 * (dt 79 10)) + 2).toNat = dt469 83 ((4 * (dt 79 10)) + 2).toNat := u2_ne (by omega)
          have y498 : (u2 dt469 83 ((4 * (dt469 79 10)).toNat) 8) 83 ((4 * (dt 79 10)) + 3).toNat = dt469 83 ((4 * (dt 79 10)) + 3).toNat := u2_ne (by omega)
          refine go_smp (L' := [some (.inr (.inr (some 79))), some (.inl 0)]) (st' := []) (w' := (SH, (u2 dt469 83 ((4 * (dt469 79 10)).toNat) 8))) rfl rfl (s_iast (n := 64) rfl ⟨by omega, by omega⟩ ⟨by omega, by omega⟩) ?_
          have r499 : 0 ≤ dt469 79 11 ∧ dt469 79 11 ≤ 510 := InvC_get hI470 79 11 rfl rfl
          refine go_to (k := 12) (pc' := 119) (L' := [some (.inr (.inr (some 79))), some (.inl 0)]) (st' := [.inl (dt469 79 11), .inl ((4 * (dt469 79 10)) + 1), .inr (.inr (some 83))]) (w' := (SH, (u2 dt469 83 ((4 * (dt469 79 10)).toNat) 8))) (fun _ => rfl) ?_
          have hI500 : InvC (u2 (u2 dt469 83 ((4 * (dt469 79 10)).toNat) 8) 83 (((4 * (dt469 79 10)) + 1).toNat) (dt469 79 11)) := InvC_u2 hI480 (lo := -2147483648) (hi := 2147483647) rfl rfl rfl (by omega) (by omega)
          have hF501 : Fr [79, 83, 84] dt (u2 (u2 dt469 83 ((4 * (dt469 79 10)).toNat) 8) 83 (((4 * (dt469 79 10)) + 1).toNat) (dt469 79 11)) := Fr_u2 hF481 (by decide)
          have w502 : (u2 (u2 dt469 83 ((4 * (dt469 79 10)).toNat) 8) 83 (((4 * (dt469 79 10)) + 1).toNat) (dt469 79 11)) 79 2 = (u2 dt469 83 ((4 * (dt469 79 10)).toNat) 8) 79 2 := rfl
          have w503 : (u2 (u2 dt469 83 ((4 * (dt469 79 10)).toNat) 8) 83 (((4 * (dt469 79 10)) + 1).toNat) (dt469 79 11)) 79 9 = (u2 dt469 83 ((4 * (dt469 79 10)).toNat) 8) 79 9 := rfl
          have w504 : (u2 (u2 dt469 83 ((4 * (dt469 79 10)).toNat) 8) 83 (((4 * (dt469 79 10)) + 1).toNat) (dt469 79 11)) 79 10 = (u2 dt469 83 ((4 * (dt469 79 10)).toNat) 8) 79 10 := rfl
          have w505 : (u2 (u2 dt469 83 ((4 * (dt469 79 10)).toNat) 8) 83 (((4 * (dt469 79 10)) + 1).toNat) (dt469 79 11)) 79 11 = (u2 dt469 83 ((4 * (dt469 79 10)).toNat) 8) 79 11 := rfl
          have w506 : (u2 (u2 dt469 83 ((4 * (dt469 79 10)).toNat) 8) 83 (((4 * (dt469 79 10)) + 1).toNat) (dt469 79 11)) 79 12 = (u2 dt469 83 ((4 * (dt469 79 10)).toNat) 8) 79 12 := rfl
          have w507 : (u2 (u2 dt469 83 ((4 * (dt469 79 10)).toNat) 8) 83 (((4 * (dt469 79 10)) + 1).toNat) (dt469 79 11)) 79 13 = (u2 dt469 83 ((4 * (dt469 79 10)).toNat) 8) 79 13 := rfl
          have w508 : (u2 (u2 dt469 83 ((4 * (dt469 79 10)).toNat) 8) 83 (((4 * (dt469 79 10)) + 1).toNat) (dt469 79 11)) 79 14 = (u2 dt469 83 ((4 * (dt469 79 10)).toNat) 8) 79 14 := rfl
          have w509 : (u2 (u2 dt469 83 ((4 * (dt469 79 10)).toNat) 8) 83 (((4 * (dt469 79 10)) + 1).toNat) (dt469 79 11)) 79 15 = (u2 dt469 83 ((4 * (dt469 79 10)).toNat) 8) 79 15 := rfl
          have w510 : (u2 (u2 dt469 83 ((4 * (dt469 79 10)).toNat) 8) 83 (((4 * (dt469 79 10)) + 1).toNat) (dt469 79 11)) 79 16 = (u2 dt469 83 ((4 * (dt469 79 10)).toNat) 8) 79 16 := rfl
          have w511 : (u2 (u2 dt469 83 ((4 * (dt469 79 10)).toNat) 8) 83 (((4 * (dt469 79 10)) + 1).toNat) (dt469 79 11)) 79 20 = (u2 dt469 83 ((4 * (dt469 79 10)).toNat) 8) 79 20 := rfl
          have E84512 : (u2 (u2 dt469 83 ((4 * (dt469 79 10)).toNat) 8) 83 (((4 * (dt469 79 10)) + 1).toNat) (dt469 79 11)) 84 = dt 84 := (funext fun _ => u2_ne (by omega)).trans E84492
          have ex514 : ((4 * (dt 79 10)) + 1).toNat = ((4 * (dt469 79 10)) + 1).toNat := by omega
          have BL513 : ∀ j : Nat, (j : Int) < 4 * dt 79 10 → (u2 (u2 dt469 83 ((4 * (dt469 79 10)).toNat) 8) 83 (((4 * (dt469 79 10)) + 1).toNat) (dt469 79 11)) 83 j = dt 83 j := fun j hj => (u2_ne (by omega)).trans (BL493 j hj)
          have y515 : (u2 (u2 dt469 83 ((4 * (dt469 79 10)).toNat) 8) 83 (((4 * (dt469 79 10)) + 1).toNat) (dt469 79 11)) 83 ((4 * (dt 79 10))).toNat = (u2 dt469 83 ((4 * (dt469 79 10)).toNat) 8) 83 ((4 * (dt 79 10))).toNat := u2_ne (by omega)
          have y516 : (u2 (u2 dt469 83 ((4 * (dt469 79 10)).toNat) 8) 83 (((4 * (dt469 79 10)) + 1).toNat) (dt469 79 11)) 83 ((4 * (dt 79 10)) + 1).toNat = dt469 79 11 := by rw [ex514]; exact u2_eq
          have y517 : (u2 (u2 dt469 83 ((4 * (dt469 79 10)).toNat) 8) 83 (((4 * (dt469 79 10)) + 1).toNat) (dt469 79 11)) 83 ((4 * (dt 79 10)) + 2).toNat = (u2 dt469 83 ((4 * (dt469 79 10)).toNat) 8) 83 ((4 * (dt 79 10)) + 2).toNat := u2_ne (by omega)
          have y518 : (u2 (u2 dt469 83 ((4 * (dt469 79 10)).toNat) 8) 83 (((4 * (dt469 79 10)) + 1).toNat) (dt469 79 11)) 83 ((4 * (dt 79 10)) + 3).toNat = (u2 dt469 83 ((4 * (dt469 79 10)).toNat) 8) 83 ((4 * (dt 79 10)) + 3).toNat := u2_ne (by omega)
          refine go_smp (L' := [some (.inr (.inr (some 79))), some (.inl 0)]) (st' := []) (w' := (SH, (u2 (u2 dt469 83 ((4 * (dt469 79 10)).toNat) 8) 83 (((4 * (dt469 79 10)) + 1).toNat) (dt469 79 11)))) rfl rfl (s_iast (n := 64) rfl ⟨by omega, by omega⟩ ⟨by omega, by omega⟩) ?_
          refine go_to (k := 1) (pc' := 121) (L' := [some (.inr (.inr (some 79))), some (.inl 0)]) (st' := [.inr (.inr (some 79))]) (w' := (SH, (u2 (u2 dt469 83 ((4 * (dt469 79 10)).toNat) 8) 83 (((4 * (dt469 79 10)) + 1).toNat) (dt469 79 11)))) (fun _ => rfl) ?_
          refine go_call (Q' := _) rfl rfl rfl rfl rfl (sp_X6_sumUp L xs sio (d + 27) (u2 (u2 dt469 83 ((4 * (dt469 79 10)).toNat) 8) 83 (((4 * (dt469 79 10)) + 1).toNat) (dt469 79 11)) hI500   (by first | trivial | omega) (by first | trivial | omega)) ?_
          rintro _ _ ⟨dt520, rfl, hI521, hF522, h519⟩
          refine ⟨rfl, ?_⟩
          have hF523 : Fr [79, 83, 84] dt dt520 := Fr_tr hF501 hF522 (by decide)
          rcases h519 with ⟨rfl, h519⟩ | ⟨rfl, h519⟩
          · skip
            obtain ⟨h519_0, h519_1, h519_2, h519_3⟩ := h519
            have BL524 : ∀ j : Nat, (j : Int) < 4 * dt 79 10 → dt520 83 j = dt 83 j := fun j hj => (hF522 83 (by decide) j).trans (BL513 j hj)
            have y525 : dt520 83 ((4 * (dt 79 10))).toNat = (u2 (u2 dt469 83 ((4 * (dt469 79 10)).toNat) 8) 83 (((4 * (dt469 79 10)) + 1).toNat) (dt469 79 11)) 83 ((4 * (dt 79 10))).toNat := hF522 83 (by decide) _
            have y526 : dt520 83 ((4 * (dt 79 10)) + 1).toNat = (u2 (u2 dt469 83 ((4 * (dt469 79 10)).toNat) 8) 83 (((4 * (dt469 79 10)) + 1).toNat) (dt469 79 11)) 83 ((4 * (dt 79 10)) + 1).toNat := hF522 83 (by decide) _
            have y527 : dt520 83 ((4 * (dt 79 10)) + 2).toNat = (u2 (u2 dt469 83 ((4 * (dt469 79 10)).toNat) 8) 83 (((4 * (dt469 79 10)) + 1).toNat) (dt469 79 11)) 83 ((4 * (dt 79 10)) + 2).toNat := hF522 83 (by decide) _
            have y528 : dt520 83 ((4 * (dt 79 10)) + 3).toNat = (u2 (u2 dt469 83 ((4 * (dt469 79 10)).toNat) 8) 83 (((4 * (dt469 79 10)) + 1).toNat) (dt469 79 11)) 83 ((4 * (dt 79 10)) + 3).toNat := hF522 83 (by decide) _
            refine go_ret (k := 3) (r := some (.inl 0)) (w1 := (SH, dt520)) (fun _ => rfl) ?_
            exact ⟨dt520, rfl, hI521, hF523, (Or.inl ⟨rfl, ⟨by first | trivial | omega, by first | trivial | omega, by first | trivial | omega⟩⟩)⟩
          · skip
            obtain ⟨h519_0, h519_1, h519_2, h519_3, h519_4, h519_5, h519_6, h519_7, h519_8, h519_9, h519_10⟩ := h519
            have BL529 : ∀ j : Nat, (j : Int) < 4 * dt 79 10 → dt520 83 j = dt 83 j := fun j hj => (hF522 83 (by decide) j).trans (BL513 j hj)
            have y530 : dt520 83 ((4 * (dt 79 10))).toNat = (u2 (u2 dt469 83 ((4 * (dt469 79 10)).toNat) 8) 83 (((4 * (dt469 79 10)) + 1).toNat) (dt469 79 11)) 83 ((4 * (dt 79 10))).toNat := hF522 83 (by decide) _
            have y531 : dt520 83 ((4 * (dt 79 10)) + 1).toNat = (u2 (u2 dt469 83 ((4 * (dt469 79 10)).toNat) 8) 83 (((4 * (dt469 79 10)) + 1).toNat) (dt469 79 11)) 83 ((4 * (dt 79 10)) + 1).toNat := hF522 83 (by decide) _
            have y532 : dt520 83 ((4 * (dt 79 10)) + 2).toNat = (u2 (u2 dt469 83 ((4 * (dt469 79 10)).toNat) 8) 83 (((4 * (dt469 79 10)) + 1).toNat) (dt469 79 11)) 83 ((4 * (dt 79 10)) + 2).toNat := hF522 83 (by decide) _
            have y533 : dt520 83 ((4 * (dt 79 10)) + 3).toNat = (u2 (u2 dt469 83 ((4 * (dt469 79 10)).toNat) 8) 83 (((4 * (dt469 79 10)) + 1).toNat) (dt469 79 11)) 83 ((4 * (dt 79 10)) + 3).toNat := hF522 83 (by decide) _
            have r534 : 0 ≤ dt520 79 10 ∧ dt520 79 10 ≤ 24 := InvC_get hI521 79 10 rfl rfl
            have r535 : 0 ≤ dt520 79 11 ∧ dt520 79 11 ≤ 510 := InvC_get hI521 79 11 rfl rfl
            refine go_to (k := 11) (pc' := 145) (L' := [some (.inr (.inr (some 79))), some (.inl 0)]) (st' := [.inl (dt520 79 11), .inl ((4 * (dt520 79 10)) + 2), .inr (.inr (some 83))]) (w' := (SH, dt520)) (fun _ => rfl) ?_
            have hI536 : InvC (u2 dt520 83 (((4 * (dt520 79 10)) + 2).toNat) (dt520 79 11)) := InvC_u2 hI521 (lo := -2147483648) (hi := 2147483647) rfl rfl rfl (by omega) (by omega)
            have hF537 : Fr [79, 83, 84] dt (u2 dt520 83 (((4 * (dt520 79 10)) + 2).toNat) (dt520 79 11)) := Fr_u2 hF523 (by decide)
            have w538 : (u2 dt520 83 (((4 * (dt520 79 10)) + 2).toNat) (dt520 79 11)) 79 2 = dt520 79 2 := rfl
            have w539 : (u2 dt520 83 (((4 * (dt520 79 10)) + 2).toNat) (dt520 79 11)) 79 9 = dt520 79 9 := rfl
            have w540 : (u2 dt520 83 (((4 * (dt520 79 10)) + 2).toNat) (dt520 79 11)) 79 10 = dt520 79 10 := rfl
            have w541 : (u2 dt520 83 (((4 * (dt520 79 10)) + 2).toNat) (dt520 79 11)) 79 11 = dt520 79 11 := rfl
            have w542 : (u2 dt520 83 (((4 * (dt520 79 10)) + 2).toNat) (dt520 79 11)) 79 12 = dt520 79 12 := rfl
            have w543 : (u2 dt520 83 (((4 * (dt520 79 10)) + 2).toNat) (dt520 79 11)) 79 13 = dt520 79 13 := rfl
            have w544 : (u2 dt520 83 (((4 * (dt520 79 10)) + 2).toNat) (dt520 79 11)) 79 14 = dt520 79 14 := rfl
            have w545 : (u2 dt520 83 (((4 * (dt520 79 10)) + 2).toNat) (dt520 79 11)) 79 15 = dt520 79 15 := rfl
            have w546 : (u2 dt520 83 (((4 * (dt520 79 10)) + 2).toNat) (dt520 79 11)) 79 16 = dt520 79 16 := rfl
            have w547 : (u2 dt520 83 (((4 * (dt520 79 10)) + 2).toNat) (dt520 79 11)) 79 20 = dt520 79 20 := rfl
            have E84548 : (u2 dt520 83 (((4 * (dt520 79 10)) + 2).toNat) (dt520 79 11)) 84 = dt520 84 := funext fun _ => u2_ne (by omega)
            have ex550 : ((4 * (dt 79 10)) + 2).toNat = ((4 * (dt520 79 10)) + 2).toNat := by omega
            have BL549 : ∀ j : Nat, (j : Int) < 4 * dt 79 10 → (u2 dt520 83 (((4 * (dt520 79 10)) + 2).toNat) (dt520 79 11)) 83 j = dt 83 j := fun j hj => (u2_ne (by omega)).trans (BL529 j hj)
            have y551 : (u2 dt520 83 (((4 * (dt520 79 10)) + 2).toNat) (dt520 79 11)) 83 ((4 * (dt 79 10))).toNat = dt520 83 ((4 * (dt 79 10))).toNat := u2_ne (by omega)
            have y552 : (u2 dt520 83 (((4 * (dt520 79 10)) + 2).toNat) (dt520 79 11)) 83 ((4 * (dt 79 10)) + 1).toNat = dt520 83 ((4 * (dt 79 10)) + 1).toNat := u2_ne (by omega)
            have y553 : (u2 dt520 83 (((4 * (dt520 79 10)) + 2).toNat) (dt520 79 11)) 83 ((4 * (dt 79 10)) + 2).toNat = dt520 79 11 := by rw [ex550]; exact u2_eq
            have y554 : (u2 dt520 83 (((4 * (dt520 79 10)) + 2).toNat) (dt520 79 11)) 83 ((4 * (dt 79 10)) + 3).toNat = dt520 83 ((4 * (dt 79 10)) + 3).toNat := u2_ne (by omega)
            refine go_smp (L' := [some (.inr (.inr (some 79))), some (.inl 0)]) (st' := []) (w' := (SH, (u2 dt520 83 (((4 * (dt520 79 10)) + 2).toNat) (dt520 79 11)))) rfl rfl (s_iast (n := 64) rfl ⟨by omega, by omega⟩ ⟨by omega, by omega⟩) ?_
            have r555 : (-2147483648) ≤ dt520 79 14 ∧ dt520 79 14 ≤ 2147483647 := InvC_get hI521 79 14 rfl rfl
            refine go_if (k := 4) (p1 := 167) (p2 := 154) (L' := [some (.inr (.inr (some 79))), some (.inl 0)]) (st' := []) (w' := (SH, (u2 dt520 83 (((4 * (dt520 79 10)) + 2).toNat) (dt520 79 11)))) (fun _ => rfl) (c_ne (a := dt520 79 14) (b := 3) ⟨by omega, by omega⟩ ⟨by omega, by omega⟩) (fun c556 => ?_) (fun c556 => ?_)
            · skip
              refine go_to (k := 10) (pc' := 183) (L' := [some (.inr (.inr (some 79))), some (.inl 0)]) (st' := [.inl (dt520 79 11), .inl ((4 * (dt520 79 10)) + 3), .inr (.inr (some 83))]) (w' := (SH, (u2 dt520 83 (((4 * (dt520 79 10)) + 2).toNat) (dt520 79 11)))) (fun _ => rfl) ?_
              have hI557 : InvC (u2 (u2 dt520 83 (((4 * (dt520 79 10)) + 2).toNat) (dt520 79 11)) 83 (((4 * (dt520 79 10)) + 3).toNat) (dt520 79 11)) := InvC_u2 hI536 (lo := -2147483648) (hi := 2147483647) rfl rfl rfl (by omega) (by omega)
              have hF558 : Fr [79, 83, 84] dt (u2 (u2 dt520 83 (((4 * (dt520 79 10)) + 2).toNat) (dt520 79 11)) 83 (((4 * (dt520 79 10)) + 3).toNat) (dt520 79 11)) := Fr_u2 hF537 (by decide)
              have w559 : (u2 (u2 dt520 83 (((4 * (dt520 79 10)) + 2).toNat) (dt520 79 11)) 83 (((4 * (dt520 79 10)) + 3).toNat) (dt520 79 11)) 79 2 = (u2 dt520 83 (((4 * (dt520 79 10)) + 2).toNat) (dt520 79 11)) 79 2 := rfl
              have w560 : (u2 (u2 dt520 83 (((4 * (dt520 79 10)) + 2).toNat) (dt520 79 11)) 83 (((4 * (dt520 79 10)) + 3).toNat) (dt520 79 11)) 79 9 = (u2 dt520 83 (((4 * (dt520 79 10)) + 2).toNat) (dt520 79 11)) 79 9 := rfl
              have w561 : (u2 (u2 dt520 83 (((4 * (dt520 79 10)) + 2).toNat) (dt520 79 11)) 83 (((4 * (dt520 79 10)) + 3).toNat) (dt520 79 11)) 79 10 = (u2 dt520 83 (((4 * (dt520 79 10)) + 2).toNat) (dt520 79 11)) 79 10 := rfl
              have w562 : (u2 (u2 dt520 83 (((4 * (dt520 79 10)) + 2).toNat) (dt520 79 11)) 83 (((4 * (dt520 79 10)) + 3).toNat) (dt520 79 11)) 79 11 = (u2 dt520 83 (((4 * (dt520 79 10)) + 2).toNat) (dt520 79 11)) 79 11 := rfl
              have w563 : (u2 (u2 dt520 83 (((4 * (dt520 79 10)) + 2).toNat) (dt520 79 11)) 83 (((4 * (dt520 79 10)) + 3).toNat) (dt520 79 11)) 79 12 = (u2 dt520 83 (((4 * (dt520 79 10)) + 2).toNat) (dt520 79 11)) 79 12 := rfl
              have w564 : (u2 (u2 dt520 83 (((4 * (dt520 79 10)) + 2).toNat) (dt520 79 11)) 83 (((4 * (dt520 79 10)) + 3).toNat) (dt520 79 11)) 79 13 = (u2 dt520 83 (((4 * (dt520 79 10)) + 2).toNat) (dt520 79 11)) 79 13 := rfl
              have w565 : (u2 (u2 dt520 83 (((4 * (dt520 79 10)) + 2).toNat) (dt520 79 11)) 83 (((4 * (dt520 79 10)) + 3).toNat) (dt520 79 11)) 79 14 = (u2 dt520 83 (((4 * (dt520 79 10)) + 2).toNat) (dt520 79 11)) 79 14 := rfl
              have w566 : (u2 (u2 dt520 83 (((4 * (dt520 79 10)) + 2).toNat) (dt520 79 11)) 83 (((4 * (dt520 79 10)) + 3).toNat) (dt520 79 11)) 79 15 = (u2 dt520 83 (((4 * (dt520 79 10)) + 2).toNat) (dt520 79 11)) 79 15 := rfl
              have w567 : (u2 (u2 dt520 83 (((4 * (dt520 79 10)) + 2).toNat) (dt520 79 11)) 83 (((4 * (dt520 79 10)) + 3).toNat) (dt520 79 11)) 79 16 = (u2 dt520 83 (((4 * (dt520 79 10)) + 2).toNat) (dt520 79 11)) 79 16 := rfl
              have w568 : (u2 (u2 dt520 83 (((4 * (dt520 79 10)) + 2).toNat) (dt520 79 11)) 83 (((4 * (dt520 79 10)) + 3).toNat) (dt520 79 11)) 79 20 = (u2 dt520 83 (((4 * (dt520 79 10)) + 2).toNat) (dt520 79 11)) 79 20 := rfl
              have E84569 : (u2 (u2 dt520 83 (((4 * (dt520 79 10)) + 2).toNat) (dt520 79 11)) 83 (((4 * (dt520 79 10)) + 3).toNat) (dt520 79 11)) 84 = dt520 84 := (funext fun _ => u2_ne (by omega)).trans E84548
              have ex571 : ((4 * (dt 79 10)) + 3).toNat = ((4 * (dt520 79 10)) + 3).toNat := by omega
              have BL570 : ∀ j : Nat, (j : Int) < 4 * dt 79 10 → (u2 (u2 dt520 83 (((4 * (dt520 79 10)) + 2).toNat) (dt520 79 11)) 83 (((4 * (dt520 79 10)) + 3).toNat) (dt520 79 11)) 83 j = dt 83 j := fun j hj => (u2_ne (by omega)).trans (BL549 j hj)
              have y572 : (u2 (u2 dt520 83 (((4 * (dt520 79 10)) + 2).toNat) (dt520 79 11)) 83 (((4 * (dt520 79 10)) + 3).toNat) (dt520 79 11)) 83 ((4 * (dt 79 10))).toNat = (u2 dt520 83 (((4 * (dt520 79 10)) + 2).toNat) (dt520 79 11)) 83 ((4 * (dt 79 10))).toNat := u2_ne (by omega)
              have y573 : (u2 (u2 dt520 83 (((4 * (dt520 79 10)) + 2).toNat) (dt520 79 11)) 83 (((4 * (dt520 79 10)) + 3).toNat) (dt520 79 11)) 83 ((4 * (dt 79 10)) + 1).toNat = (u2 dt520 83 (((4 * (dt520 79 10)) + 2).toNat) (dt520 79 11)) 83 ((4 * (dt 79 10)) + 1).toNat := u2_ne (by omega)
              have y574 : (u2 (u2 dt520 83 (((4 * (dt520 79 10)) + 2).toNat) (dt520 79 11)) 83 (((4 * (dt520 79 10)) + 3).toNat) (dt520 79 11)) 83 ((4 * (dt 79 10)) + 2).toNat = (u2 dt520 83 (((4 * (dt520 79 10)) + 2).toNat) (dt520 79 11)) 83 ((4 * (dt 79 10)) + 2).toNat := u2_ne (by omega)
              have y575 : (u2 (u2 dt520 83 (((4 * (dt520 79 10)) + 2).toNat) (dt520 79 11)) 83 (((4 * (dt520 79 10)) + 3).toNat) (dt520 79 11)) 83 ((4 * (dt 79 10)) + 3).toNat = dt520 79 11 := by rw [ex571]; exact u2_eq
              refine go_smp (L' := [some (.inr (.inr (some 79))), some (.inl 0)]) (st' := []) (w' := (SH, (u2 (u2 dt520 83 (((4 * (dt520 79 10)) + 2).toNat) (dt520 79 11)) 83 (((4 * (dt520 79 10)) + 3).toNat) (dt520 79 11)))) rfl rfl (s_iast (n := 64) rfl ⟨by omega, by omega⟩ ⟨by omega, by omega⟩) ?_
              refine go_to (k := 2) (pc' := 188) (L' := [some (.inr (.inr (some 79))), some (.inl 0)]) (st' := [.inl 159, .inr (.inr (some 79))]) (w' := (SH, (u2 (u2 dt520 83 (((4 * (dt520 79 10)) + 2).toNat) (dt520 79 11)) 83 (((4 * (dt520 79 10)) + 3).toNat) (dt520 79 11)))) (fun _ => rfl) ?_
              refine go_call (Q' := _) rfl rfl rfl rfl rfl (sp_X6_need0 L xs sio (d + 29) (u2 (u2 dt520 83 (((4 * (dt520 79 10)) + 2).toNat) (dt520 79 11)) 83 (((4 * (dt520 79 10)) + 3).toNat) (dt520 79 11)) hI557  159 ⟨by omega, by omega⟩ (by first | trivial | omega)) ?_
              rintro _ _ ⟨dt577, rfl, hI578, hF579, h576⟩
              refine ⟨rfl, ?_⟩
              have hF580 : Fr [79, 83, 84] dt dt577 := Fr_tr hF558 hF579 (by decide)
              have E84581 : dt577 84 = dt520 84 := (funext (hF579 84 (by decide))).trans E84569
              rcases h576 with ⟨rfl, h576⟩ | ⟨rfl, h576⟩
              · skip
                obtain ⟨h576_0, h576_1, h576_2, h576_3⟩ := h576
                have BL582 : ∀ j : Nat, (j : Int) < 4 * dt 79 10 → dt577 83 j = dt 83 j := fun j hj => (hF579 83 (by decide) j).trans (BL570 j hj)
                have y583 : dt577 83 ((4 * (dt 79 10))).toNat = (u2 (u2 dt520 83 (((4 * (dt520 79 10)) + 2).toNat) (dt520 79 11)) 83 (((4 * (dt520 79 10)) + 3).toNat) (dt520 79 11)) 83 ((4 * (dt 79 10))).toNat := hF579 83 (by decide) _
                have y584 : dt577 83 ((4 * (dt 79 10)) + 1).toNat = (u2 (u2 dt520 83 (((4 * (dt520 79 10)) + 2).toNat) (dt520 79 11)) 83 (((4 * (dt520 79 10)) + 3).toNat) (dt520 79 11)) 83 ((4 * (dt 79 10)) + 1).toNat := hF579 83 (by decide) _
                have y585 : dt577 83 ((4 * (dt 79 10)) + 2).toNat = (u2 (u2 dt520 83 (((4 * (dt520 79 10)) + 2).toNat) (dt520 79 11)) 83 (((4 * (dt520 79 10)) + 3).toNat) (dt520 79 11)) 83 ((4 * (dt 79 10)) + 2).toNat := hF579 83 (by decide) _
                have y586 : dt577 83 ((4 * (dt 79 10)) + 3).toNat = (u2 (u2 dt520 83 (((4 * (dt520 79 10)) + 2).toNat) (dt520 79 11)) 83 (((4 * (dt520 79 10)) + 3).toNat) (dt520 79 11)) 83 ((4 * (dt 79 10)) + 3).toNat := hF579 83 (by decide) _
                refine go_ret (k := 1) (r := some (.inl 0)) (w1 := (SH, dt577)) (fun _ => rfl) ?_
                exact ⟨dt577, rfl, hI578, hF580, (Or.inl ⟨rfl, ⟨by first | trivial | omega, by first | trivial | omega, by first | trivial | omega⟩⟩)⟩
              · skip
                obtain ⟨h576_0, h576_1, h576_2, h576_3, h576_4, h576_5, h576_6, h576_7, h576_8⟩ := h576
                have BL587 : ∀ j : Nat, (j : Int) < 4 * dt 79 10 → dt577 83 j = dt 83 j := fun j hj => (hF579 83 (by decide) j).trans (BL570 j hj)
                have y588 : dt577 83 ((4 * (dt 79 10))).toNat = (u2 (u2 dt520 83 (((4 * (dt520 79 10)) + 2).toNat) (dt520 79 11)) 83 (((4 * (dt520 79 10)) + 3).toNat) (dt520 79 11)) 83 ((4 * (dt 79 10))).toNat := hF579 83 (by decide) _
                have y589 : dt577 83 ((4 * (dt 79 10)) + 1).toNat = (u2 (u2 dt520 83 (((4 * (dt520 79 10)) + 2).toNat) (dt520 79 11)) 83 (((4 * (dt520 79 10)) + 3).toNat) (dt520 79 11)) 83 ((4 * (dt 79 10)) + 1).toNat := hF579 83 (by decide) _
                have y590 : dt577 83 ((4 * (dt 79 10)) + 2).toNat = (u2 (u2 dt520 83 (((4 * (dt520 79 10)) + 2).toNat) (dt520 79 11)) 83 (((4 * (dt520 79 10)) + 3).toNat) (dt520 79 11)) 83 ((4 * (dt 79 10)) + 2).toNat := hF579 83 (by decide) _
                have y591 : dt577 83 ((4 * (dt 79 10)) + 3).toNat = (u2 (u2 dt520 83 (((4 * (dt520 79 10)) + 2).toNat) (dt520 79 11)) 83 (((4 * (dt520 79 10)) + 3).toNat) (dt520 79 11)) 83 ((4 * (dt 79 10)) + 3).toNat := hF579 83 (by decide) _
                refine go_ret (k := 1) (r := some (.inl 1)) (w1 := (SH, dt577)) (fun _ => rfl) ?_
                exact ⟨dt577, rfl, hI578, hF580, (Or.inr ⟨rfl, ⟨by first | trivial | omega, by exact BL587, by exact ⟨by omega, PS_fin (by assumption) (by first | exact AGR_e (by assumption) | exact AGR_e rfl | exact AGR_tr (AGR_e (by assumption)) rfl (AGR_2 (by assumption) (by assumption) (by omega)) (by omega) | exact AGR_tr (AGR_e (by assumption)) rfl (AGR_2 (by assumption) rfl (by omega)) (by omega)) (by omega) (by omega), fun _ => by first | omega | exact PS_fin (by assumption) (by first | exact AGR_e (by assumption) | exact AGR_e rfl) (by omega) (by omega)⟩, by first | assumption | exact AGR_rfl | exact AGR_4 (by assumption) (by assumption) (by first | rfl | assumption) (by omega) | exact AGR_4 (by assumption) (by assumption) (by assumption) (by omega) | exact AGR_e (by assumption) | exact AGR_2 (by assumption) (by first | rfl | assumption) (by omega) | exact AGR_2 (by assumption) (by assumption) (by omega) | exact AGR_tr (by assumption) (by first | assumption | rfl) (by assumption) (by omega) | exact AGR_tr (by assumption) (by first | assumption | rfl) (AGR_tr (by assumption) (by first | assumption | rfl) (by assumption) (by omega)) (by omega) | exact AGR_tr (by assumption) (by first | assumption | rfl) (AGR_2 (by assumption) (by first | assumption | rfl) (by omega)) (by omega) | exact AGR_tr (by assumption) (by first | assumption | rfl) (AGR_tr (by assumption) (by first | assumption | rfl) (AGR_2 (by assumption) (by first | assumption | rfl) (by omega)) (by omega)) (by omega), by first | trivial | omega, by first | trivial | omega, by first | trivial | omega, by first | trivial | omega, by exact (InvC_get (by assumption) 79 15 rfl rfl).2, by first | trivial | omega, by first | trivial | omega, by first | trivial | omega, by first | trivial | omega⟩⟩)⟩
            · skip
              refine go_to (k := 1) (pc' := 155) (L' := [some (.inr (.inr (some 79))), some (.inl 0)]) (st' := [.inr (.inr (some 79))]) (w' := (SH, (u2 dt520 83 (((4 * (dt520 79 10)) + 2).toNat) (dt520 79 11)))) (fun _ => rfl) ?_
              refine go_call (Q' := _) rfl rfl rfl rfl rfl (sp_X6_next0 L xs sio (d + 30) (u2 dt520 83 (((4 * (dt520 79 10)) + 2).toNat) (dt520 79 11)) hI536   (by first | trivial | omega)) ?_
              rintro _ _ ⟨dt593, rfl, hI594, hF595, h592⟩
              refine ⟨rfl, ?_⟩
              have hF596 : Fr [79, 83, 84] dt dt593 := Fr_tr hF537 hF595 (by decide)
              have E84597 : dt593 84 = dt520 84 := (funext (hF595 84 (by decide))).trans E84548
              rcases h592 with ⟨rfl, h592⟩
              obtain ⟨h592_0, h592_1, h592_2, h592_3, h592_4, h592_5, h592_6, h592_7, h592_8⟩ := h592
              have BL598 : ∀ j : Nat, (j : Int) < 4 * dt 79 10 → dt593 83 j = dt 83 j := fun j hj => (hF595 83 (by decide) j).trans (BL549 j hj)
              have y599 : dt593 83 ((4 * (dt 79 10))).toNat = (u2 dt520 83 (((4 * (dt520 79 10)) + 2).toNat) (dt520 79 11)) 83 ((4 * (dt 79 10))).toNat := hF595 83 (by decide) _
              have y600 : dt593 83 ((4 * (dt 79 10)) + 1).toNat = (u2 dt520 83 (((4 * (dt520 79 10)) + 2).toNat) (dt520 79 11)) 83 ((4 * (dt 79 10)) + 1).toNat := hF595 83 (by decide) _
              have y601 : dt593 83 ((4 * (dt 79 10)) + 2).toNat = (u2 dt520 83 (((4 * (dt520 79 10)) + 2).toNat) (dt520 79 11)) 83 ((4 * (dt 79 10)) + 2).toNat := hF595 83 (by decide) _
              have y602 : dt593 83 ((4 * (dt 79 10)) + 3).toNat = (u2 dt520 83 (((4 * (dt520 79 10)) + 2).toNat) (dt520 79 11)) 83 ((4 * (dt 79 10)) + 3).toNat := hF595 83 (by decide) _
              refine go_to (k := 1) (pc' := 159) (L' := [some (.inr (.inr (some 79))), some (.inl 0)]) (st' := [.inr (.inr (some 79))]) (w' := (SH, dt593)) (fun _ => rfl) ?_
              refine go_call (Q' := _) rfl rfl rfl rfl rfl (sp_X6_any_0 L xs sio (d + 0) dt593 hI594   (by first | trivial | omega) (by first | trivial | omega) (by first | trivial | omega)) ?_
              rintro _ _ ⟨dt604, rfl, hI605, hF606, h603⟩
              refine ⟨rfl, ?_⟩
              have hF607 : Fr [79, 83, 84] dt dt604 := Fr_tr hF596 hF606 (by decide)
              rcases h603 with ⟨rfl, h603⟩ | ⟨rfl, h603⟩
              · skip
                obtain ⟨h603_0, h603_1, h603_2, h603_3⟩ := h603
                have BL608 : ∀ j : Nat, (j : Int) < 4 * dt 79 10 → dt604 83 j = dt 83 j := fun j hj => (hF606 83 (by decide) j).trans (BL598 j hj)
                have y609 : dt604 83 ((4 * (dt 79 10))).toNat = dt593 83 ((4 * (dt 79 10))).toNat := hF606 83 (by decide) _
                have y610 : dt604 83 ((4 * (dt 79 10)) + 1).toNat = dt593 83 ((4 * (dt 79 10)) + 1).toNat := hF606 83 (by decide) _
                have y611 : dt604 83 ((4 * (dt 79 10)) + 2).toNat = dt593 83 ((4 * (dt 79 10)) + 2).toNat := hF606 83 (by decide) _
                have y612 : dt604 83 ((4 * (dt 79 10)) + 3).toNat = dt593 83 ((4 * (dt 79 10)) + 3).toNat := hF606 83 (by decide) _
                refine go_ret (k := 3) (r := some (.inl 0)) (w1 := (SH, dt604)) (fun _ => rfl) ?_
                exact ⟨dt604, rfl, hI605, hF607, (Or.inl ⟨rfl, ⟨by first | trivial | omega, by first | trivial | omega, by first | trivial | omega⟩⟩)⟩
              · skip
                obtain ⟨h603_0, h603_1, h603_2, h603_3, h603_4, h603_5, h603_6, h603_7, h603_8, h603_9, h603_10⟩ := h603
                have BL613 : ∀ j : Nat, (j : Int) < 4 * dt 79 10 → dt604 83 j = dt 83 j := fun j hj => (hF606 83 (by decide) j).trans (BL598 j hj)
                have y614 : dt604 83 ((4 * (dt 79 10))).toNat = dt593 83 ((4 * (dt 79 10))).toNat := hF606 83 (by decide) _
                have y615 : dt604 83 ((4 * (dt 79 10)) + 1).toNat = dt593 83 ((4 * (dt 79 10)) + 1).toNat := hF606 83 (by decide) _
                have y616 : dt604 83 ((4 * (dt 79 10)) + 2).toNat = dt593 83 ((4 * (dt 79 10)) + 2).toNat := hF606 83 (by decide) _
                have y617 : dt604 83 ((4 * (dt 79 10)) + 3).toNat = dt593 83 ((4 * (dt 79 10)) + 3).toNat := hF606 83 (by decide) _
                have r618 : 0 ≤ dt604 79 10 ∧ dt604 79 10 ≤ 24 := InvC_get hI605 79 10 rfl rfl
                have r619 : 0 ≤ dt604 79 11 ∧ dt604 79 11 ≤ 510 := InvC_get hI605 79 11 rfl rfl
                refine go_to (k := 11) (pc' := 183) (L' := [some (.inr (.inr (some 79))), some (.inl 0)]) (st' := [.inl (dt604 79 11), .inl ((4 * (dt604 79 10)) + 3), .inr (.inr (some 83))]) (w' := (SH, dt604)) (fun _ => rfl) ?_
                have hI620 : InvC (u2 dt604 83 (((4 * (dt604 79 10)) + 3).toNat) (dt604 79 11)) := InvC_u2 hI605 (lo := -2147483648) (hi := 2147483647) rfl rfl rfl (by omega) (by omega)
                have hF621 : Fr [79, 83, 84] dt (u2 dt604 83 (((4 * (dt604 79 10)) + 3).toNat) (dt604 79 11)) := Fr_u2 hF607 (by decide)
                have w622 : (u2 dt604 83 (((4 * (dt604 79 10)) + 3).toNat) (dt604 79 11)) 79 2 = dt604 79 2 := rfl
                have w623 : (u2 dt604 83 (((4 * (dt604 79 10)) + 3).toNat) (dt604 79 11)) 79 9 = dt604 79 9 := rfl
                have w624 : (u2 dt604 83 (((4 * (dt604 79 10)) + 3).toNat) (dt604 79 11)) 79 10 = dt604 79 10 := rfl
                have w625 : (u2 dt604 83 (((4 * (dt604 79 10)) + 3).toNat) (dt604 79 11)) 79 11 = dt604 79 11 := rfl
                have w626 : (u2 dt604 83 (((4 * (dt604 79 10)) + 3).toNat) (dt604 79 11)) 79 12 = dt604 79 12 := rfl
                have w627 : (u2 dt604 83 (((4 * (dt604 79 10)) + 3).toNat) (dt604 79 11)) 79 13 = dt604 79 13 := rfl
                have w628 : (u2 dt604 83 (((4 * (dt604 79 10)) + 3).toNat) (dt604 79 11)) 79 14 = dt604 79 14 := rfl
                have w629 : (u2 dt604 83 (((4 * (dt604 79 10)) + 3).toNat) (dt604 79 11)) 79 15 = dt604 79 15 := rfl
                have w630 : (u2 dt604 83 (((4 * (dt604 79 10)) + 3).toNat) (dt604 79 11)) 79 16 = dt604 79 16 := rfl
                have w631 : (u2 dt604 83 (((4 * (dt604 79 10)) + 3).toNat) (dt604 79 11)) 79 20 = dt604 79 20 := rfl
                have E84632 : (u2 dt604 83 (((4 * (dt604 79 10)) + 3).toNat) (dt604 79 11)) 84 = dt604 84 := funext fun _ => u2_ne (by omega)
                have ex634 : ((4 * (dt 79 10)) + 3).toNat = ((4 * (dt604 79 10)) + 3).toNat := by omega
                have BL633 : ∀ j : Nat, (j : Int) < 4 * dt 79 10 → (u2 dt604 83 (((4 * (dt604 79 10)) + 3).toNat) (dt604 79 11)) 83 j = dt 83 j := fun j hj => (u2_ne (by omega)).trans (BL613 j hj)
                have y635 : (u2 dt604 83 (((4 * (dt604 79 10)) + 3).toNat) (dt604 79 11)) 83 ((4 * (dt 79 10))).toNat = dt604 83 ((4 * (dt 79 10))).toNat := u2_ne (by omega)
                have y636 : (u2 dt604 83 (((4 * (dt604 79 10)) + 3).toNat) (dt604 79 11)) 83 ((4 * (dt 79 10)) + 1).toNat = dt604 83 ((4 * (dt 79 10)) + 1).toNat := u2_ne (by omega)
                have y637 : (u2 dt604 83 (((4 * (dt604 79 10)) + 3).toNat) (dt604 79 11)) 83 ((4 * (dt 79 10)) + 2).toNat = dt604 83 ((4 * (dt 79 10)) + 2).toNat := u2_ne (by omega)
                have y638 : (u2 dt604 83 (((4 * (dt604 79 10)) + 3).toNat) (dt604 79 11)) 83 ((4 * (dt 79 10)) + 3).toNat = dt604 79 11 := by rw [ex634]; exact u2_eq
                refine go_smp (L' := [some (.inr (.inr (some 79))), some (.inl 0)]) (st' := []) (w' := (SH, (u2 dt604 83 (((4 * (dt604 79 10)) + 3).toNat) (dt604 79 11)))) rfl rfl (s_iast (n := 64) rfl ⟨by omega, by omega⟩ ⟨by omega, by omega⟩) ?_
                refine go_to (k := 2) (pc' := 188) (L' := [some (.inr (.inr (some 79))), some (.inl 0)]) (st' := [.inl 159, .inr (.inr (some 79))]) (w' := (SH, (u2 dt604 83 (((4 * (dt604 79 10)) + 3).toNat) (dt604 79 11)))) (fun _ => rfl) ?_
                refine go_call (Q' := _) rfl rfl rfl rfl rfl (sp_X6_need0 L xs sio (d + 29) (u2 dt604 83 (((4 * (dt604 79 10)) + 3).toNat) (dt604 79 11)) hI620  159 ⟨by omega, by omega⟩ (by first | trivial | omega)) ?_
                rintro _ _ ⟨dt640, rfl, hI641, hF642, h639⟩
                refine ⟨rfl, ?_⟩
                have hF643 : Fr [79, 83, 84] dt dt640 := Fr_tr hF621 hF642 (by decide)
                have E84644 : dt640 84 = dt604 84 := (funext (hF642 84 (by decide))).trans E84632
                rcases h639 with ⟨rfl, h639⟩ | ⟨rfl, h639⟩
                · skip
                  obtain ⟨h639_0, h639_1, h639_2, h639_3⟩ := h639
                  have BL645 : ∀ j : Nat, (j : Int) < 4 * dt 79 10 → dt640 83 j = dt 83 j := fun j hj => (hF642 83 (by decide) j).trans (BL633 j hj)
                  have y646 : dt640 83 ((4 * (dt 79 10))).toNat = (u2 dt604 83 (((4 * (dt604 79 10)) + 3).toNat) (dt604 79 11)) 83 ((4 * (dt 79 10))).toNat := hF642 83 (by decide) _
                  have y647 : dt640 83 ((4 * (dt 79 10)) + 1).toNat = (u2 dt604 83 (((4 * (dt604 79 10)) + 3).toNat) (dt604 79 11)) 83 ((4 * (dt 79 10)) + 1).toNat := hF642 83 (by decide) _
                  have y648 : dt640 83 ((4 * (dt 79 10)) + 2).toNat = (u2 dt604 83 (((4 * (dt604 79 10)) + 3).toNat) (dt604 79 11)) 83 ((4 * (dt 79 10)) + 2).toNat := hF642 83 (by decide) _
                  have y649 : dt640 83 ((4 * (dt 79 10)) + 3).toNat = (u2 dt604 83 (((4 * (dt604 79 10)) + 3).toNat) (dt604 79 11)) 83 ((4 * (dt 79 10)) + 3).toNat := hF642 83 (by decide) _
                  refine go_ret (k := 1) (r := some (.inl 0)) (w1 := (SH, dt640)) (fun _ => rfl) ?_
                  exact ⟨dt640, rfl, hI641, hF643, (Or.inl ⟨rfl, ⟨by first | trivial | omega, by first | trivial | omega, by first | trivial | omega⟩⟩)⟩
                · skip
                  obtain ⟨h639_0, h639_1, h639_2, h639_3, h639_4, h639_5, h639_6, h639_7, h639_8⟩ := h639
                  have BL650 : ∀ j : Nat, (j : Int) < 4 * dt 79 10 → dt640 83 j = dt 83 j := fun j hj => (hF642 83 (by decide) j).trans (BL633 j hj)
                  have y651 : dt640 83 ((4 * (dt 79 10))).toNat = (u2 dt604 83 (((4 * (dt604 79 10)) + 3).toNat) (dt604 79 11)) 83 ((4 * (dt 79 10))).toNat := hF642 83 (by decide) _
                  have y652 : dt640 83 ((4 * (dt 79 10)) + 1).toNat = (u2 dt604 83 (((4 * (dt604 79 10)) + 3).toNat) (dt604 79 11)) 83 ((4 * (dt 79 10)) + 1).toNat := hF642 83 (by decide) _
                  have y653 : dt640 83 ((4 * (dt 79 10)) + 2).toNat = (u2 dt604 83 (((4 * (dt604 79 10)) + 3).toNat) (dt604 79 11)) 83 ((4 * (dt 79 10)) + 2).toNat := hF642 83 (by decide) _
                  have y654 : dt640 83 ((4 * (dt 79 10)) + 3).toNat = (u2 dt604 83 (((4 * (dt604 79 10)) + 3).toNat) (dt604 79 11)) 83 ((4 * (dt 79 10)) + 3).toNat := hF642 83 (by decide) _
                  refine go_ret (k := 1) (r := some (.inl 1)) (w1 := (SH, dt640)) (fun _ => rfl) ?_
                  exact ⟨dt640, rfl, hI641, hF643, (Or.inr ⟨rfl, ⟨by first | trivial | omega, by exact BL650, by exact ⟨by omega, PS_fin (by assumption) (by first | exact AGR_e (by assumption) | exact AGR_e rfl | exact AGR_tr (AGR_e (by assumption)) rfl (AGR_2 (by assumption) (by assumption) (by omega)) (by omega) | exact AGR_tr (AGR_e (by assumption)) rfl (AGR_2 (by assumption) rfl (by omega)) (by omega)) (by omega) (by omega), fun _ => by first | omega | exact PS_fin (by assumption) (by first | exact AGR_e (by assumption) | exact AGR_e rfl) (by omega) (by omega)⟩, by first | assumption | exact AGR_rfl | exact AGR_4 (by assumption) (by assumption) (by first | rfl | assumption) (by omega) | exact AGR_4 (by assumption) (by assumption) (by assumption) (by omega) | exact AGR_e (by assumption) | exact AGR_2 (by assumption) (by first | rfl | assumption) (by omega) | exact AGR_2 (by assumption) (by assumption) (by omega) | exact AGR_tr (by assumption) (by first | assumption | rfl) (by assumption) (by omega) | exact AGR_tr (by assumption) (by first | assumption | rfl) (AGR_tr (by assumption) (by first | assumption | rfl) (by assumption) (by omega)) (by omega) | exact AGR_tr (by assumption) (by first | assumption | rfl) (AGR_2 (by assumption) (by first | assumption | rfl) (by omega)) (by omega) | exact AGR_tr (by assumption) (by first | assumption | rfl) (AGR_tr (by assumption) (by first | assumption | rfl) (AGR_2 (by assumption) (by first | assumption | rfl) (by omega)) (by omega)) (by omega), by first | trivial | omega, by first | trivial | omega, by first | trivial | omega, by first | trivial | omega, by exact (InvC_get (by assumption) 79 15 rfl rfl).2, by first | trivial | omega, by first | trivial | omega, by first | trivial | omega, by first | trivial | omega⟩⟩)⟩
        · exfalso; omega
      · skip
        refine go_to (k := 2) (pc' := 35) (L' := [some (.inr (.inr (some 79))), none]) (st' := [.inl 3, .inr (.inr (some 79))]) (w' := (SH, dt)) (fun _ => rfl) ?_
        refine go_call (Q' := _) rfl rfl rfl rfl rfl (sp_X6_bad L xs sio (d + 36) dt hI  3 ⟨by omega, by omega⟩ ) ?_
        rintro _ _ ⟨dt656, rfl, hI657, hF658, h655⟩
        refine ⟨rfl, ?_⟩
        have hF659 : Fr [79, 83, 84] dt dt656 := Fr_tr hF hF658 (by decide)
        have E84660 : dt656 84 = dt 84 := funext (hF658 84 (by decide))
        rcases h655 with ⟨rfl, h655⟩
        obtain ⟨h655_0, h655_1, h655_2, h655_3, h655_4, h655_5⟩ := h655
        have BL661 : ∀ j : Nat, (j : Int) < 4 * dt 79 10 → dt656 83 j = dt 83 j := fun j hj => (hF658 83 (by decide) j).trans ((fun _ _ => rfl) j hj)
        have y662 : dt656 83 ((4 * (dt 79 10))).toNat = dt 83 ((4 * (dt 79 10))).toNat := hF658 83 (by decide) _
        have y663 : dt656 83 ((4 * (dt 79 10)) + 1).toNat = dt 83 ((4 * (dt 79 10)) + 1).toNat := hF658 83 (by decide) _
        have y664 : dt656 83 ((4 * (dt 79 10)) + 2).toNat = dt 83 ((4 * (dt 79 10)) + 2).toNat := hF658 83 (by decide) _
        have y665 : dt656 83 ((4 * (dt 79 10)) + 3).toNat = dt 83 ((4 * (dt 79 10)) + 3).toNat := hF658 83 (by decide) _
        refine go_ret (k := 1) (r := some (.inl 0)) (w1 := (SH, dt656)) (fun _ => rfl) ?_
        exact ⟨dt656, rfl, hI657, hF659, (Or.inl ⟨rfl, ⟨by first | trivial | omega, by first | trivial | omega, by first | trivial | omega⟩⟩)⟩
    · skip
      refine go_to (k := 2) (pc' := 20) (L' := [some (.inr (.inr (some 79))), none]) (st' := [.inl 1, .inr (.inr (some 79))]) (w' := (SH, dt)) (fun _ => rfl) ?_
      refine go_call (Q' := _) rfl rfl rfl rfl rfl (sp_X6_bad L xs sio (d + 36) dt hI  1 ⟨by omega, by omega⟩ ) ?_
      rintro _ _ ⟨dt667, rfl, hI668, hF669, h666⟩
      refine ⟨rfl, ?_⟩
      have hF670 : Fr [79, 83, 84] dt dt667 := Fr_tr hF hF669 (by decide)
      have E84671 : dt667 84 = dt 84 := funext (hF669 84 (by decide))
      rcases h666 with ⟨rfl, h666⟩
      obtain ⟨h666_0, h666_1, h666_2, h666_3, h666_4, h666_5⟩ := h666
      have BL672 : ∀ j : Nat, (j : Int) < 4 * dt 79 10 → dt667 83 j = dt 83 j := fun j hj => (hF669 83 (by decide) j).trans ((fun _ _ => rfl) j hj)
      have y673 : dt667 83 ((4 * (dt 79 10))).toNat = dt 83 ((4 * (dt 79 10))).toNat := hF669 83 (by decide) _
      have y674 : dt667 83 ((4 * (dt 79 10)) + 1).toNat = dt 83 ((4 * (dt 79 10)) + 1).toNat := hF669 83 (by decide) _
      have y675 : dt667 83 ((4 * (dt 79 10)) + 2).toNat = dt 83 ((4 * (dt 79 10)) + 2).toNat := hF669 83 (by decide) _
      have y676 : dt667 83 ((4 * (dt 79 10)) + 3).toNat = dt 83 ((4 * (dt 79 10)) + 3).toNat := hF669 83 (by decide) _
      refine go_ret (k := 1) (r := some (.inl 0)) (w1 := (SH, dt667)) (fun _ => rfl) ?_
      exact ⟨dt667, rfl, hI668, hF670, (Or.inl ⟨rfl, ⟨by first | trivial | omega, by first | trivial | omega, by first | trivial | omega⟩⟩)⟩
set_option maxRecDepth 20000 in
theorem sp_X6_keeps_k0 (L : Nat) (xs : Nat → Int32) (sio : Option Nat) (d : Nat) (dt : Nat → Nat → Int) (hI : InvC dt) (hM : MW (dt 80))  (p1 : Int) (h_p1 : 0 ≤ p1 ∧ p1 ≤ 7) (h_p0 : dt 79 9 = 0) (h_p1 : 0 ≤ dt 79 10 ∧ dt 79 10 ≤ 24) (h_p2 : ARW (dt 82) (dt 79 10)) : GO (am_XX L xs sio) (d) 175 0 [some (.inr (.inr (some 79))), some (.inl p1), none] [] (SH, dt) (fun r w2 => ∃ dt2 : Nat → Nat → Int, w2 = (SH, dt2) ∧ InvC dt2 ∧ Fr [80] dt dt2 ∧ ((r = none ∧ (MW (dt2 80)) ∧ (dt2 80 0 = dt 80 0) ∧ (dt2 80 1 = dt 80 1) ∧ (dt2 80 2 = dt 80 2) ∧ (dt2 80 3 = dt 80 3) ∧ (dt2 80 4 = dt 80 4) ∧ (dt2 80 5 = dt 80 5)))) := by
  have hF : Fr [80] dt dt := Fr_refl
  have r1 : 0 ≤ dt 79 9 ∧ dt 79 9 ≤ 1 := InvC_get hI 79 9 rfl rfl
  have r2 : 0 ≤ dt 79 10 ∧ dt 79 10 ≤ 24 := InvC_get hI 79 10 rfl rfl
  refine go_if (k := 3) (p1 := 59) (p2 := 7) (L' := [some (.inr (.inr (some 79))), some (.inl p1), none]) (st' := []) (w' := (SH, dt)) (fun _ => rfl) (z_ne (a := dt 79 9) ⟨by omega, by omega⟩) (fun c3 => ?_) (fun c3 => ?_)
  · skip
    exfalso; omega
  · skip
    refine go_to (k := 7) (pc' := 19) (L' := [some (.inr (.inr (some 79))), some (.inl p1), none]) (st' := [.inl (dt 79 10), .inl (6 + p1), .inr (.inr (some 80))]) (w' := (SH, dt)) (fun _ => rfl) ?_
    have hI4 : InvC (u2 dt 80 ((6 + p1).toNat) (dt 79 10)) := InvC_u2 hI (lo := -2147483648) (hi := 2147483647) rfl rfl rfl (by omega) (by omega)
    have hF5 : Fr [80] dt (u2 dt 80 ((6 + p1).toNat) (dt 79 10)) := Fr_u2 hF (by decide)
    refine go_smp (L' := [some (.inr (.inr (some 79))), some (.inl p1), none]) (st' := []) (w' := (SH, (u2 dt 80 ((6 + p1).toNat) (dt 79 10)))) rfl rfl (s_iast (n := 7460) rfl ⟨by omega, by omega⟩ ⟨by omega, by omega⟩) ?_
    refine go_to (k := 2) (pc' := 22) (L' := [some (.inr (.inr (some 79))), some (.inl p1), some (.inl 0)]) (st' := []) (w' := (SH, (u2 dt 80 ((6 + p1).toNat) (dt 79 10)))) (fun _ => rfl) ?_
    have loop17 : ∀ (k_ : Nat) (l22_2 : Int) (dt11 : Nat → Nat → Int) (hI12 : InvC dt11) (hF13 : Fr [80] dt dt11) (i14 : 0 ≤ l22_2 ∧ l22_2 ≤ 120) (i15 : l22_2 ≤ 5 * dt 79 10) (i16 : ∀ j : Nat, dt11 80 j = K0 (dt 80) (dt 82) p1 (dt 79 10) l22_2 j), (121 - l22_2).toNat < k_ → GO (am_XX L xs sio) (d) 175 22 [some (.inr (.inr (some 79))), some (.inl p1), some (.inl l22_2)] [] (SH, dt11) (fun r w2 => ∃ dt2 : Nat → Nat → Int, w2 = (SH, dt2) ∧ InvC dt2 ∧ Fr [80] dt dt2 ∧ ((r = none ∧ (MW (dt2 80)) ∧ (dt2 80 0 = dt 80 0) ∧ (dt2 80 1 = dt 80 1) ∧ (dt2 80 2 = dt 80 2) ∧ (dt2 80 3 = dt 80 3) ∧ (dt2 80 4 = dt 80 4) ∧ (dt2 80 5 = dt 80 5)))) := by
      intro k_
      induction k_ with
      | zero => intro l22_2 dt11 hI12 hF13 i14 i15 i16 hm; exact absurd hm (Nat.not_lt_zero _)
      | succ k_ ih_loop17 =>
        intro l22_2 dt11 hI12 hF13 i14 i15 i16 hm
        refine go_to (k := 3) (pc' := 25) (L' := [some (.inr (.inr (some 79))), some (.inl p1), some (.inl l22_2)]) (st' := [.inr (.inr (some 79)), .inl 5, .inl l22_2]) (w' := (SH, dt11)) (fun _ => rfl) ?_
        refine go_smp (L' := [some (.inr (.inr (some 79))), some (.inl p1), some (.inl l22_2)]) (st' := [.inl (dt 79 10), .inl 5, .inl l22_2]) (w' := (SH, dt11)) rfl rfl (s_gfc rfl rfl rfl (hF13 79 (by decide) 10)) ?_
        refine go_if (k := 2) (p1 := 58) (p2 := 32) (L' := [some (.inr (.inr (some 79))), some (.inl p1), some (.inl l22_2)]) (st' := []) (w' := (SH, dt11)) (fun _ => rfl) (c_ge (a := l22_2) (b := 5 * (dt 79 10)) ⟨by omega, by omega⟩ ⟨by omega, by omega⟩) (fun c18 => ?_) (fun c18 => ?_)
        · skip
          refine go_ret (k := 1) (r := none) (w1 := (SH, dt11)) (fun _ => rfl) ?_
          exact ⟨dt11, rfl, hI12, hF13, ⟨rfl, ⟨by exact MW_K0 hM (by assumption) (by omega) (by omega) (by assumption) (by omega), by rw [‹∀ j : Nat, _ = K0 _ _ _ _ _ j› 0]; unfold K0; rw [if_neg (by omega), if_neg (by omega)], by rw [‹∀ j : Nat, _ = K0 _ _ _ _ _ j› 1]; unfold K0; rw [if_neg (by omega), if_neg (by omega)], by rw [‹∀ j : Nat, _ = K0 _ _ _ _ _ j› 2]; unfold K0; rw [if_neg (by omega), if_neg (by omega)], by rw [‹∀ j : Nat, _ = K0 _ _ _ _ _ j› 3]; unfold K0; rw [if_neg (by omega), if_neg (by omega)], by rw [‹∀ j : Nat, _ = K0 _ _ _ _ _ j› 4]; unfold K0; rw [if_neg (by omega), if_neg (by omega)], by rw [‹∀ j : Nat, _ = K0 _ _ _ _ _ j› 5]; unfold K0; rw [if_neg (by omega), if_neg (by omega)]⟩⟩⟩
        · skip
          refine go_to (k := 12) (pc' := 50) (L' := [some (.inr (.inr (some 79))), some (.inl p1), some (.inl l22_2)]) (st' := [.inl l22_2, .inr (.inr (some 82)), .inl ((14 + (120 * p1)) + l22_2), .inr (.inr (some 80))]) (w' := (SH, dt11)) (fun _ => rfl) ?_
          have r19 : (-2147483648) ≤ dt 82 (l22_2).toNat ∧ dt 82 (l22_2).toNat ≤ 2147483647 := InvC_get hI 82 (l22_2).toNat rfl rfl
          refine go_smp (L' := [some (.inr (.inr (some 79))), some (.inl p1), some (.inl l22_2)]) (st' := [.inl (dt 82 (l22_2).toNat), .inl ((14 + (120 * p1)) + l22_2), .inr (.inr (some 80))]) (w' := (SH, dt11)) rfl rfl (s_ev (s_iald (n := 120) (f := dt11 82) rfl ⟨by omega, by omega⟩) (hF13 82 (by decide) _)) ?_
          have hI20 : InvC (u2 dt11 80 (((14 + (120 * p1)) + l22_2).toNat) (dt 82 (l22_2).toNat)) := InvC_u2 hI12 (lo := -2147483648) (hi := 2147483647) rfl rfl rfl (by omega) (by omega)
          have hF21 : Fr [80] dt (u2 dt11 80 (((14 + (120 * p1)) + l22_2).toNat) (dt 82 (l22_2).toNat)) := Fr_u2 hF13 (by decide)
          refine go_smp (L' := [some (.inr (.inr (some 79))), some (.inl p1), some (.inl l22_2)]) (st' := []) (w' := (SH, (u2 dt11 80 (((14 + (120 * p1)) + l22_2).toNat) (dt 82 (l22_2).toNat)))) rfl rfl (s_iast (n := 7460) rfl ⟨by omega, by omega⟩ ⟨by omega, by omega⟩) ?_
          refine go_to (k := 2) (pc' := 22) (L' := [some (.inr (.inr (some 79))), some (.inl p1), some (.inl (l22_2 + 1))]) (st' := []) (w' := (SH, (u2 dt11 80 (((14 + (120 * p1)) + l22_2).toNat) (dt 82 (l22_2).toNat)))) (fun _ => rfl) ?_
          exact GO.le (ih_loop17 (l22_2 + 1) (u2 dt11 80 (((14 + (120 * p1)) + l22_2).toNat) (dt 82 (l22_2).toNat)) hI20 hF21 (by first | omega | exact K0_0 (by omega) | exact K0_s (by assumption) (by omega) (by omega) rfl) (by first | omega | exact K0_0 (by omega) | exact K0_s (by assumption) (by omega) (by omega) rfl) (by first | omega | exact K0_0 (by omega) | exact K0_s (by assumption) (by omega) (by omega) rfl) (by omega)) ⟨.inl rfl, .inl rfl, .inl rfl, trivial⟩
    exact GO.le (loop17 _ 0 (u2 dt 80 ((6 + p1).toNat) (dt 79 10)) hI4 hF5 (by first | omega | exact K0_0 (by omega) | exact K0_s (by assumption) (by omega) (by omega) rfl) (by first | omega | exact K0_0 (by omega) | exact K0_s (by assumption) (by omega) (by omega) rfl) (by first | omega | exact K0_0 (by omega) | exact K0_s (by assumption) (by omega) (by omega) rfl) (Nat.lt_succ_self _)) ⟨.inl rfl, .inl rfl, .inl rfl, trivial⟩
set_option maxRecDepth 20000 in
theorem sp_X6_keeps_k1 (L : Nat) (xs : Nat → Int32) (sio : Option Nat) (d : Nat) (dt : Nat → Nat → Int) (hI : InvC dt) (hM : MW (dt 80))  (p1 : Int) (h_p1 : 0 ≤ p1 ∧ p1 ≤ 3) (h_p0 : dt 79 9 = 1) (h_p1 : 0 ≤ dt 79 10 ∧ dt 79 10 ≤ 16) (h_p2 : 0 ≤ dt 79 11 ∧ dt 79 11 ≤ 510) (h_p3 : LRW (dt 83) (dt 84) (dt 79 10) (dt 79 11)) : GO (am_XX L xs sio) (d) 175 0 [some (.inr (.inr (some 79))), some (.inl p1), none] [] (SH, dt) (fun r w2 => ∃ dt2 : Nat → Nat → Int, w2 = (SH, dt2) ∧ InvC dt2 ∧ Fr [80] dt dt2 ∧ ((r = none ∧ (MW (dt2 80)) ∧ (dt2 80 0 = dt 80 0) ∧ (dt2 80 1 = dt 80 1) ∧ (dt2 80 2 = dt 80 2) ∧ (dt2 80 3 = dt 80 3) ∧ (dt2 80 4 = dt 80 4) ∧ (dt2 80 5 = dt 80 5)))) := by
  have hF : Fr [80] dt dt := Fr_refl
  have r1 : 0 ≤ dt 79 9 ∧ dt 79 9 ≤ 1 := InvC_get hI 79 9 rfl rfl
  have r2 : 0 ≤ dt 79 10 ∧ dt 79 10 ≤ 24 := InvC_get hI 79 10 rfl rfl
  have r3 : 0 ≤ dt 79 11 ∧ dt 79 11 ≤ 510 := InvC_get hI 79 11 rfl rfl
  refine go_if (k := 3) (p1 := 59) (p2 := 7) (L' := [some (.inr (.inr (some 79))), some (.inl p1), none]) (st' := []) (w' := (SH, dt)) (fun _ => rfl) (z_ne (a := dt 79 9) ⟨by omega, by omega⟩) (fun c4 => ?_) (fun c4 => ?_)
  · skip
    refine go_to (k := 7) (pc' := 72) (L' := [some (.inr (.inr (some 79))), some (.inl p1), none]) (st' := [.inl (dt 79 10), .inl (974 + p1), .inr (.inr (some 80))]) (w' := (SH, dt)) (fun _ => rfl) ?_
    have hI5 : InvC (u2 dt 80 ((974 + p1).toNat) (dt 79 10)) := InvC_u2 hI (lo := -2147483648) (hi := 2147483647) rfl rfl rfl (by omega) (by omega)
    have hF6 : Fr [80] dt (u2 dt 80 ((974 + p1).toNat) (dt 79 10)) := Fr_u2 hF (by decide)
    refine go_smp (L' := [some (.inr (.inr (some 79))), some (.inl p1), none]) (st' := []) (w' := (SH, (u2 dt 80 ((974 + p1).toNat) (dt 79 10)))) rfl rfl (s_iast (n := 7460) rfl ⟨by omega, by omega⟩ ⟨by omega, by omega⟩) ?_
    refine go_to (k := 2) (pc' := 75) (L' := [some (.inr (.inr (some 79))), some (.inl p1), some (.inl 0)]) (st' := []) (w' := (SH, (u2 dt 80 ((974 + p1).toNat) (dt 79 10)))) (fun _ => rfl) ?_
    have loop27 : ∀ (k_ : Nat) (l75_2 : Int) (dt21 : Nat → Nat → Int) (hI22 : InvC dt21) (hF23 : Fr [80] dt dt21) (i24 : 0 ≤ l75_2 ∧ l75_2 ≤ 16) (i25 : l75_2 ≤ dt 79 10) (i26 : ∀ j : Nat, dt21 80 j = K1 (dt 80) (dt 83) p1 (dt 79 10) l75_2 j), (17 - l75_2).toNat < k_ → GO (am_XX L xs sio) (d) 175 75 [some (.inr (.inr (some 79))), some (.inl p1), some (.inl l75_2)] [] (SH, dt21) (fun r w2 => ∃ dt2 : Nat → Nat → Int, w2 = (SH, dt2) ∧ InvC dt2 ∧ Fr [80] dt dt2 ∧ ((r = none ∧ (MW (dt2 80)) ∧ (dt2 80 0 = dt 80 0) ∧ (dt2 80 1 = dt 80 1) ∧ (dt2 80 2 = dt 80 2) ∧ (dt2 80 3 = dt 80 3) ∧ (dt2 80 4 = dt 80 4) ∧ (dt2 80 5 = dt 80 5)))) := by
      intro k_
      induction k_ with
      | zero => intro l75_2 dt21 hI22 hF23 i24 i25 i26 hm; exact absurd hm (Nat.not_lt_zero _)
      | succ k_ ih_loop27 =>
        intro l75_2 dt21 hI22 hF23 i24 i25 i26 hm
        refine go_to (k := 2) (pc' := 77) (L' := [some (.inr (.inr (some 79))), some (.inl p1), some (.inl l75_2)]) (st' := [.inr (.inr (some 79)), .inl l75_2]) (w' := (SH, dt21)) (fun _ => rfl) ?_
        refine go_smp (L' := [some (.inr (.inr (some 79))), some (.inl p1), some (.inl l75_2)]) (st' := [.inl (dt 79 10), .inl l75_2]) (w' := (SH, dt21)) rfl rfl (s_gfc rfl rfl rfl (hF23 79 (by decide) 10)) ?_
        refine go_if (k := 1) (p1 := 187) (p2 := 83) (L' := [some (.inr (.inr (some 79))), some (.inl p1), some (.inl l75_2)]) (st' := []) (w' := (SH, dt21)) (fun _ => rfl) (c_ge (a := l75_2) (b := dt 79 10) ⟨by omega, by omega⟩ ⟨by omega, by omega⟩) (fun c28 => ?_) (fun c28 => ?_)
        · skip
          refine go_to (k := 2) (pc' := 189) (L' := [some (.inr (.inr (some 79))), some (.inl p1), some (.inl 0)]) (st' := []) (w' := (SH, dt21)) (fun _ => rfl) ?_
          have loop40 : ∀ (k_ : Nat) (l189_2 : Int) (dt34 : Nat → Nat → Int) (hI35 : InvC dt34) (hF36 : Fr [80] dt dt34) (i37 : 0 ≤ l189_2 ∧ l189_2 ≤ 1020) (i38 : l189_2 ≤ 2 * dt 79 11) (i39 : ∀ j : Nat, dt34 80 j = K2 (K1 (dt 80) (dt 83) p1 (dt 79 10) l75_2) (dt 84) p1 l189_2 j), (1021 - l189_2).toNat < k_ → GO (am_XX L xs sio) (d) 175 189 [some (.inr (.inr (some 79))), some (.inl p1), some (.inl l189_2)] [] (SH, dt34) (fun r w2 => ∃ dt2 : Nat → Nat → Int, w2 = (SH, dt2) ∧ InvC dt2 ∧ Fr [80] dt dt2 ∧ ((r = none ∧ (MW (dt2 80)) ∧ (dt2 80 0 = dt 80 0) ∧ (dt2 80 1 = dt 80 1) ∧ (dt2 80 2 = dt 80 2) ∧ (dt2 80 3 = dt 80 3) ∧ (dt2 80 4 = dt 80 4) ∧ (dt2 80 5 = dt 80 5)))) := by
            intro k_
            induction k_ with
            | zero => intro l189_2 dt34 hI35 hF36 i37 i38 i39 hm; exact absurd hm (Nat.not_lt_zero _)
            | succ k_ ih_loop40 =>
              intro l189_2 dt34 hI35 hF36 i37 i38 i39 hm
              refine go_to (k := 3) (pc' := 192) (L' := [some (.inr (.inr (some 79))), some (.inl p1), some (.inl l189_2)]) (st' := [.inr (.inr (some 79)), .inl 2, .inl l189_2]) (w' := (SH, dt34)) (fun _ => rfl) ?_
              refine go_smp (L' := [some (.inr (.inr (some 79))), some (.inl p1), some (.inl l189_2)]) (st' := [.inl (dt 79 11), .inl 2, .inl l189_2]) (w' := (SH, dt34)) rfl rfl (s_gfc rfl rfl rfl (hF36 79 (by decide) 11)) ?_
              refine go_if (k := 2) (p1 := 227) (p2 := 199) (L' := [some (.inr (.inr (some 79))), some (.inl p1), some (.inl l189_2)]) (st' := []) (w' := (SH, dt34)) (fun _ => rfl) (c_ge (a := l189_2) (b := 2 * (dt 79 11)) ⟨by omega, by omega⟩ ⟨by omega, by omega⟩) (fun c41 => ?_) (fun c41 => ?_)
              · skip
                refine go_ret (k := 1) (r := none) (w1 := (SH, dt34)) (fun _ => rfl) ?_
                exact ⟨dt34, rfl, hI35, hF36, ⟨rfl, ⟨by exact MW_K1 hM (by assumption) (by omega) (by omega) (by omega) (by assumption) (by omega) (by omega), by rw [‹∀ j : Nat, _ = K2 _ _ _ _ j› 0]; unfold K2 K1; rw [if_neg (by omega), if_neg (by omega), if_neg (by omega), if_neg (by omega), if_neg (by omega), if_neg (by omega)], by rw [‹∀ j : Nat, _ = K2 _ _ _ _ j› 1]; unfold K2 K1; rw [if_neg (by omega), if_neg (by omega), if_neg (by omega), if_neg (by omega), if_neg (by omega), if_neg (by omega)], by rw [‹∀ j : Nat, _ = K2 _ _ _ _ j› 2]; unfold K2 K1; rw [if_neg (by omega), if_neg (by omega), if_neg (by omega), if_neg (by omega), if_neg (by omega), if_neg (by omega)], by rw [‹∀ j : Nat, _ = K2 _ _ _ _ j› 3]; unfold K2 K1; rw [if_neg (by omega), if_neg (by omega), if_neg (by omega), if_neg (by omega), if_neg (by omega), if_neg (by omega)], by rw [‹∀ j : Nat, _ = K2 _ _ _ _ j› 4]; unfold K2 K1; rw [if_neg (by omega), if_neg (by omega), if_neg (by omega), if_neg (by omega), if_neg (by omega), if_neg (by omega)], by rw [‹∀ j : Nat, _ = K2 _ _ _ _ j› 5]; unfold K2 K1; rw [if_neg (by omega), if_neg (by omega), if_neg (by omega), if_neg (by omega), if_neg (by omega), if_neg (by omega)]⟩⟩⟩
              · skip
                refine go_to (k := 12) (pc' := 219) (L' := [some (.inr (.inr (some 79))), some (.inl p1), some (.inl l189_2)]) (st' := [.inl l189_2, .inr (.inr (some 84)), .inl ((1240 + (1020 * p1)) + l189_2), .inr (.inr (some 80))]) (w' := (SH, dt34)) (fun _ => rfl) ?_
                have r42 : (-2147483648) ≤ dt 84 (l189_2).toNat ∧ dt 84 (l189_2).toNat ≤ 2147483647 := InvC_get hI 84 (l189_2).toNat rfl rfl
                refine go_smp (L' := [some (.inr (.inr (some 79))), some (.inl p1), some (.inl l189_2)]) (st' := [.inl (dt 84 (l189_2).toNat), .inl ((1240 + (1020 * p1)) + l189_2), .inr (.inr (some 80))]) (w' := (SH, dt34)) rfl rfl (s_ev (s_iald (n := 1020) (f := dt34 84) rfl ⟨by omega, by omega⟩) (hF36 84 (by decide) _)) ?_
                have hI43 : InvC (u2 dt34 80 (((1240 + (1020 * p1)) + l189_2).toNat) (dt 84 (l189_2).toNat)) := InvC_u2 hI35 (lo := -2147483648) (hi := 2147483647) rfl rfl rfl (by omega) (by omega)
                have hF44 : Fr [80] dt (u2 dt34 80 (((1240 + (1020 * p1)) + l189_2).toNat) (dt 84 (l189_2).toNat)) := Fr_u2 hF36 (by decide)
                refine go_smp (L' := [some (.inr (.inr (some 79))), some (.inl p1), some (.inl l189_2)]) (st' := []) (w' := (SH, (u2 dt34 80 (((1240 + (1020 * p1)) + l189_2).toNat) (dt 84 (l189_2).toNat)))) rfl rfl (s_iast (n := 7460) rfl ⟨by omega, by omega⟩ ⟨by omega, by omega⟩) ?_
                refine go_to (k := 2) (pc' := 189) (L' := [some (.inr (.inr (some 79))), some (.inl p1), some (.inl (l189_2 + 1))]) (st' := []) (w' := (SH, (u2 dt34 80 (((1240 + (1020 * p1)) + l189_2).toNat) (dt 84 (l189_2).toNat)))) (fun _ => rfl) ?_
                exact GO.le (ih_loop40 (l189_2 + 1) (u2 dt34 80 (((1240 + (1020 * p1)) + l189_2).toNat) (dt 84 (l189_2).toNat)) hI43 hF44 (by first | omega | exact K2_0 (by assumption) (by omega) | exact K2_s (by assumption) (by omega) (by omega) rfl) (by first | omega | exact K2_0 (by assumption) (by omega) | exact K2_s (by assumption) (by omega) (by omega) rfl) (by first | omega | exact K2_0 (by assumption) (by omega) | exact K2_s (by assumption) (by omega) (by omega) rfl) (by omega)) ⟨.inl rfl, .inl rfl, .inl rfl, trivial⟩
          exact GO.le (loop40 _ 0 dt21 hI22 hF23 (by first | omega | exact K2_0 (by assumption) (by omega) | exact K2_s (by assumption) (by omega) (by omega) rfl) (by first | omega | exact K2_0 (by assumption) (by omega) | exact K2_s (by assumption) (by omega) (by omega) rfl) (by first | omega | exact K2_0 (by assumption) (by omega) | exact K2_s (by assumption) (by omega) (by omega) rfl) (Nat.lt_succ_self _)) ⟨.inl rfl, .inl rfl, .inl rfl, trivial⟩
        · skip
          refine go_to (k := 14) (pc' := 104) (L' := [some (.inr (.inr (some 79))), some (.inl p1), some (.inl l75_2)]) (st' := [.inl (4 * l75_2), .inr (.inr (some 83)), .inl ((978 + (16 * p1)) + l75_2), .inr (.inr (some 80))]) (w' := (SH, dt21)) (fun _ => rfl) ?_
          have r45 : (-2147483648) ≤ dt 83 ((4 * l75_2).toNat) ∧ dt 83 ((4 * l75_2).toNat) ≤ 2147483647 := InvC_get hI 83 ((4 * l75_2).toNat) rfl rfl
          refine go_smp (L' := [some (.inr (.inr (some 79))), some (.inl p1), some (.inl l75_2)]) (st' := [.inl (dt 83 ((4 * l75_2).toNat)), .inl ((978 + (16 * p1)) + l75_2), .inr (.inr (some 80))]) (w' := (SH, dt21)) rfl rfl (s_ev (s_iald (n := 64) (f := dt21 83) rfl ⟨by omega, by omega⟩) (hF23 83 (by decide) _)) ?_
          have hI46 : InvC (u2 dt21 80 (((978 + (16 * p1)) + l75_2).toNat) (dt 83 ((4 * l75_2).toNat))) := InvC_u2 hI22 (lo := -2147483648) (hi := 2147483647) rfl rfl rfl (by omega) (by omega)
          have hF47 : Fr [80] dt (u2 dt21 80 (((978 + (16 * p1)) + l75_2).toNat) (dt 83 ((4 * l75_2).toNat))) := Fr_u2 hF23 (by decide)
          refine go_smp (L' := [some (.inr (.inr (some 79))), some (.inl p1), some (.inl l75_2)]) (st' := []) (w' := (SH, (u2 dt21 80 (((978 + (16 * p1)) + l75_2).toNat) (dt 83 ((4 * l75_2).toNat))))) rfl rfl (s_iast (n := 7460) rfl ⟨by omega, by omega⟩ ⟨by omega, by omega⟩) ?_
          refine go_to (k := 16) (pc' := 129) (L' := [some (.inr (.inr (some 79))), some (.inl p1), some (.inl l75_2)]) (st' := [.inl ((4 * l75_2) + 1), .inr (.inr (some 83)), .inl ((1042 + (16 * p1)) + l75_2), .inr (.inr (some 80))]) (w' := (SH, (u2 dt21 80 (((978 + (16 * p1)) + l75_2).toNat) (dt 83 ((4 * l75_2).toNat))))) (fun _ => rfl) ?_
          have r48 : (-2147483648) ≤ dt 83 (((4 * l75_2) + 1).toNat) ∧ dt 83 (((4 * l75_2) + 1).toNat) ≤ 2147483647 := InvC_get hI 83 (((4 * l75_2) + 1).toNat) rfl rfl
          refine go_smp (L' := [some (.inr (.inr (some 79))), some (.inl p1), some (.inl l75_2)]) (st' := [.inl (dt 83 (((4 * l75_2) + 1).toNat)), .inl ((1042 + (16 * p1)) + l75_2), .inr (.inr (some 80))]) (w' := (SH, (u2 dt21 80 (((978 + (16 * p1)) + l75_2).toNat) (dt 83 ((4 * l75_2).toNat))))) rfl rfl (s_ev (s_iald (n := 64) (f := (u2 dt21 80 (((978 + (16 * p1)) + l75_2).toNat) (dt 83 ((4 * l75_2).toNat))) 83) rfl ⟨by omega, by omega⟩) (hF47 83 (by decide) _)) ?_
          have hI49 : InvC (u2 (u2 dt21 80 (((978 + (16 * p1)) + l75_2).toNat) (dt 83 ((4 * l75_2).toNat))) 80 (((1042 + (16 * p1)) + l75_2).toNat) (dt 83 (((4 * l75_2) + 1).toNat))) := InvC_u2 hI46 (lo := -2147483648) (hi := 2147483647) rfl rfl rfl (by omega) (by omega)
          have hF50 : Fr [80] dt (u2 (u2 dt21 80 (((978 + (16 * p1)) + l75_2).toNat) (dt 83 ((4 * l75_2).toNat))) 80 (((1042 + (16 * p1)) + l75_2).toNat) (dt 83 (((4 * l75_2) + 1).toNat))) := Fr_u2 hF47 (by decide)
          refine go_smp (L' := [some (.inr (.inr (some 79))), some (.inl p1), some (.inl l75_2)]) (st' := []) (w' := (SH, (u2 (u2 dt21 80 (((978 + (16 * p1)) + l75_2).toNat) (dt 83 ((4 * l75_2).toNat))) 80 (((1042 + (16 * p1)) + l75_2).toNat) (dt 83 (((4 * l75_2) + 1).toNat))))) rfl rfl (s_iast (n := 7460) rfl ⟨by omega, by omega⟩ ⟨by omega, by omega⟩) ?_
          refine go_to (k := 16) (pc' := 154) (L' := [some (.inr (.inr (some 79))), some (.inl p1), some (.inl l75_2)]) (st' := [.inl ((4 * l75_2) + 2), .inr (.inr (some 83)), .inl ((1106 + (16 * p1)) + l75_2), .inr (.inr (some 80))]) (w' := (SH, (u2 (u2 dt21 80 (((978 + (16 * p1)) + l75_2).toNat) (dt 83 ((4 * l75_2).toNat))) 80 (((1042 + (16 * p1)) + l75_2).toNat) (dt 83 (((4 * l75_2) + 1).toNat))))) (fun _ => rfl) ?_
          have r51 : (-2147483648) ≤ dt 83 (((4 * l75_2) + 2).toNat) ∧ dt 83 (((4 * l75_2) + 2).toNat) ≤ 2147483647 := InvC_get hI 83 (((4 * l75_2) + 2).toNat) rfl rfl
          refine go_smp (L' := [some (.inr (.inr (some 79))), some (.inl p1), some (.inl l75_2)]) (st' := [.inl (dt 83 (((4 * l75_2) + 2).toNat)), .inl ((1106 + (16 * p1)) + l75_2), .inr (.inr (some 80))]) (w' := (SH, (u2 (u2 dt21 80 (((978 + (16 * p1)) + l75_2).toNat) (dt 83 ((4 * l75_2).toNat))) 80 (((1042 + (16 * p1)) + l75_2).toNat) (dt 83 (((4 * l75_2) + 1).toNat))))) rfl rfl (s_ev (s_iald (n := 64) (f := (u2 (u2 dt21 80 (((978 + (16 * p1)) + l75_2).toNat) (dt 83 ((4 * l75_2).toNat))) 80 (((1042 + (16 * p1)) + l75_2).toNat) (dt 83 (((4 * l75_2) + 1).toNat))) 83) rfl ⟨by omega, by omega⟩) (hF50 83 (by decide) _)) ?_
          have hI52 : InvC (u2 (u2 (u2 dt21 80 (((978 + (16 * p1)) + l75_2).toNat) (dt 83 ((4 * l75_2).toNat))) 80 (((1042 + (16 * p1)) + l75_2).toNat) (dt 83 (((4 * l75_2) + 1).toNat))) 80 (((1106 + (16 * p1)) + l75_2).toNat) (dt 83 (((4 * l75_2) + 2).toNat))) := InvC_u2 hI49 (lo := -2147483648) (hi := 2147483647) rfl rfl rfl (by omega) (by omega)
          have hF53 : Fr [80] dt (u2 (u2 (u2 dt21 80 (((978 + (16 * p1)) + l75_2).toNat) (dt 83 ((4 * l75_2).toNat))) 80 (((1042 + (16 * p1)) + l75_2).toNat) (dt 83 (((4 * l75_2) + 1).toNat))) 80 (((1106 + (16 * p1)) + l75_2).toNat) (dt 83 (((4 * l75_2) + 2).toNat))) := Fr_u2 hF50 (by decide)
          refine go_smp (L' := [some (.inr (.inr (some 79))), some (.inl p1), some (.inl l75_2)]) (st' := []) (w' := (SH, (u2 (u2 (u2 dt21 80 (((978 + (16 * p1)) + l75_2).toNat) (dt 83 ((4 * l75_2).toNat))) 80 (((1042 + (16 * p1)) + l75_2).toNat) (dt 83 (((4 * l75_2) + 1).toNat))) 80 (((1106 + (16 * p1)) + l75_2).toNat) (dt 83 (((4 * l75_2) + 2).toNat))))) rfl rfl (s_iast (n := 7460) rfl ⟨by omega, by omega⟩ ⟨by omega, by omega⟩) ?_
          refine go_to (k := 16) (pc' := 179) (L' := [some (.inr (.inr (some 79))), some (.inl p1), some (.inl l75_2)]) (st' := [.inl ((4 * l75_2) + 3), .inr (.inr (some 83)), .inl ((1170 + (16 * p1)) + l75_2), .inr (.inr (some 80))]) (w' := (SH, (u2 (u2 (u2 dt21 80 (((978 + (16 * p1)) + l75_2).toNat) (dt 83 ((4 * l75_2).toNat))) 80 (((1042 + (16 * p1)) + l75_2).toNat) (dt 83 (((4 * l75_2) + 1).toNat))) 80 (((1106 + (16 * p1)) + l75_2).toNat) (dt 83 (((4 * l75_2) + 2).toNat))))) (fun _ => rfl) ?_
          have r54 : (-2147483648) ≤ dt 83 (((4 * l75_2) + 3).toNat) ∧ dt 83 (((4 * l75_2) + 3).toNat) ≤ 2147483647 := InvC_get hI 83 (((4 * l75_2) + 3).toNat) rfl rfl
          refine go_smp (L' := [some (.inr (.inr (some 79))), some (.inl p1), some (.inl l75_2)]) (st' := [.inl (dt 83 (((4 * l75_2) + 3).toNat)), .inl ((1170 + (16 * p1)) + l75_2), .inr (.inr (some 80))]) (w' := (SH, (u2 (u2 (u2 dt21 80 (((978 + (16 * p1)) + l75_2).toNat) (dt 83 ((4 * l75_2).toNat))) 80 (((1042 + (16 * p1)) + l75_2).toNat) (dt 83 (((4 * l75_2) + 1).toNat))) 80 (((1106 + (16 * p1)) + l75_2).toNat) (dt 83 (((4 * l75_2) + 2).toNat))))) rfl rfl (s_ev (s_iald (n := 64) (f := (u2 (u2 (u2 dt21 80 (((978 + (16 * p1)) + l75_2).toNat) (dt 83 ((4 * l75_2).toNat))) 80 (((1042 + (16 * p1)) + l75_2).toNat) (dt 83 (((4 * l75_2) + 1).toNat))) 80 (((1106 + (16 * p1)) + l75_2).toNat) (dt 83 (((4 * l75_2) + 2).toNat))) 83) rfl ⟨by omega, by omega⟩) (hF53 83 (by decide) _)) ?_
          have hI55 : InvC (u2 (u2 (u2 (u2 dt21 80 (((978 + (16 * p1)) + l75_2).toNat) (dt 83 ((4 * l75_2).toNat))) 80 (((1042 + (16 * p1)) + l75_2).toNat) (dt 83 (((4 * l75_2) + 1).toNat))) 80 (((1106 + (16 * p1)) + l75_2).toNat) (dt 83 (((4 * l75_2) + 2).toNat))) 80 (((1170 + (16 * p1)) + l75_2).toNat) (dt 83 (((4 * l75_2) + 3).toNat))) := InvC_u2 hI52 (lo := -2147483648) (hi := 2147483647) rfl rfl rfl (by omega) (by omega)
          have hF56 : Fr [80] dt (u2 (u2 (u2 (u2 dt21 80 (((978 + (16 * p1)) + l75_2).toNat) (dt 83 ((4 * l75_2).toNat))) 80 (((1042 + (16 * p1)) + l75_2).toNat) (dt 83 (((4 * l75_2) + 1).toNat))) 80 (((1106 + (16 * p1)) + l75_2).toNat) (dt 83 (((4 * l75_2) + 2).toNat))) 80 (((1170 + (16 * p1)) + l75_2).toNat) (dt 83 (((4 * l75_2) + 3).toNat))) := Fr_u2 hF53 (by decide)
          refine go_smp (L' := [some (.inr (.inr (some 79))), some (.inl p1), some (.inl l75_2)]) (st' := []) (w' := (SH, (u2 (u2 (u2 (u2 dt21 80 (((978 + (16 * p1)) + l75_2).toNat) (dt 83 ((4 * l75_2).toNat))) 80 (((1042 + (16 * p1)) + l75_2).toNat) (dt 83 (((4 * l75_2) + 1).toNat))) 80 (((1106 + (16 * p1)) + l75_2).toNat) (dt 83 (((4 * l75_2) + 2).toNat))) 80 (((1170 + (16 * p1)) + l75_2).toNat) (dt 83 (((4 * l75_2) + 3).toNat))))) rfl rfl (s_iast (n := 7460) rfl ⟨by omega, by omega⟩ ⟨by omega, by omega⟩) ?_
          refine go_to (k := 2) (pc' := 75) (L' := [some (.inr (.inr (some 79))), some (.inl p1), some (.inl (l75_2 + 1))]) (st' := []) (w' := (SH, (u2 (u2 (u2 (u2 dt21 80 (((978 + (16 * p1)) + l75_2).toNat) (dt 83 ((4 * l75_2).toNat))) 80 (((1042 + (16 * p1)) + l75_2).toNat) (dt 83 (((4 * l75_2) + 1).toNat))) 80 (((1106 + (16 * p1)) + l75_2).toNat) (dt 83 (((4 * l75_2) + 2).toNat))) 80 (((1170 + (16 * p1)) + l75_2).toNat) (dt 83 (((4 * l75_2) + 3).toNat))))) (fun _ => rfl) ?_
          exact GO.le (ih_loop27 (l75_2 + 1) (u2 (u2 (u2 (u2 dt21 80 (((978 + (16 * p1)) + l75_2).toNat) (dt 83 ((4 * l75_2).toNat))) 80 (((1042 + (16 * p1)) + l75_2).toNat) (dt 83 (((4 * l75_2) + 1).toNat))) 80 (((1106 + (16 * p1)) + l75_2).toNat) (dt 83 (((4 * l75_2) + 2).toNat))) 80 (((1170 + (16 * p1)) + l75_2).toNat) (dt 83 (((4 * l75_2) + 3).toNat))) hI55 hF56 (by first | omega | exact K1_0 (by omega) | exact K1_s (by assumption) (by omega) (by omega) rfl rfl rfl rfl) (by first | omega | exact K1_0 (by omega) | exact K1_s (by assumption) (by omega) (by omega) rfl rfl rfl rfl) (by first | omega | exact K1_0 (by omega) | exact K1_s (by assumption) (by omega) (by omega) rfl rfl rfl rfl) (by omega)) ⟨.inl rfl, .inl rfl, .inl rfl, trivial⟩
    exact GO.le (loop27 _ 0 (u2 dt 80 ((974 + p1).toNat) (dt 79 10)) hI5 hF6 (by first | omega | exact K1_0 (by omega) | exact K1_s (by assumption) (by omega) (by omega) rfl rfl rfl rfl) (by first | omega | exact K1_0 (by omega) | exact K1_s (by assumption) (by omega) (by omega) rfl rfl rfl rfl) (by first | omega | exact K1_0 (by omega) | exact K1_s (by assumption) (by omega) (by omega) rfl rfl rfl rfl) (Nat.lt_succ_self _)) ⟨.inl rfl, .inl rfl, .inl rfl, trivial⟩
  · skip
    exfalso; omega
set_option maxRecDepth 20000 in
theorem sp_X6_text (L : Nat) (xs : Nat → Int32) (sio : Option Nat) (d : Nat) (dt : Nat → Nat → Int) (hI : InvC dt) (hM : MW (dt 80))  (p1 : Int) (h_p1 : (-2147483648) ≤ p1 ∧ p1 ≤ 2147483647) (p2 : Int) (h_p2 : (-2147483648) ≤ p2 ∧ p2 ≤ 2147483647)  : GO (am_XX L xs sio) (d + 38) 174 0 [some (.inr (.inr (some 79))), some (.inl p1), some (.inl p2), none] [] (SH, dt) (fun r w2 => ∃ dt2 : Nat → Nat → Int, w2 = (SH, dt2) ∧ InvC dt2 ∧ Fr [79, 80, 82, 83, 84] dt dt2 ∧ ((∃ v : Int, r = some (.inl v) ∧ ((-1) ≤ v ∧ v ≤ 24) ∧ (dt2 79 12 = 0) ∧ (dt2 79 2 = dt 79 2) ∧ (MW (dt2 80)) ∧ (dt2 80 0 = dt 80 0) ∧ (dt2 80 1 = dt 80 1) ∧ (dt2 80 2 = dt 80 2) ∧ (dt2 80 3 = dt 80 3) ∧ (dt2 80 4 = dt 80 4) ∧ (dt2 80 5 = dt 80 5)))) := by
  have hF : Fr [79, 80, 82, 83, 84] dt dt := Fr_refl
  have r1 : 0 ≤ dt 79 15 ∧ dt 79 15 ≤ 500 := InvC_get hI 79 15 rfl rfl
  have r2 : 0 ≤ dt 79 11 ∧ dt 79 11 ≤ 510 := InvC_get hI 79 11 rfl rfl
  have r3 : 0 ≤ dt 79 10 ∧ dt 79 10 ≤ 24 := InvC_get hI 79 10 rfl rfl
  refine go_to (k := 2) (pc' := 2) (L' := [some (.inr (.inr (some 79))), some (.inl p1), some (.inl p2), none]) (st' := [.inl 0, .inr (.inr (some 79))]) (w' := (SH, dt)) (fun _ => rfl) ?_
  have hI4 : InvC (u2 dt 79 17 0) := InvC_u2 hI (lo := -2147483648) (hi := 2147483647) rfl rfl rfl (by omega) (by omega)
  have hF5 : Fr [79, 80, 82, 83, 84] dt (u2 dt 79 17 0) := Fr_u2 hF (by decide)
  have w6 : (u2 dt 79 17 0) 79 2 = dt 79 2 := rfl
  have w7 : (u2 dt 79 17 0) 79 9 = dt 79 9 := rfl
  have w8 : (u2 dt 79 17 0) 79 10 = dt 79 10 := rfl
  have w9 : (u2 dt 79 17 0) 79 11 = dt 79 11 := rfl
  have w10 : (u2 dt 79 17 0) 79 12 = dt 79 12 := rfl
  have w11 : (u2 dt 79 17 0) 79 13 = dt 79 13 := rfl
  have w12 : (u2 dt 79 17 0) 79 14 = dt 79 14 := rfl
  have w13 : (u2 dt 79 17 0) 79 15 = dt 79 15 := rfl
  have w14 : (u2 dt 79 17 0) 79 16 = dt 79 16 := rfl
  have w15 : (u2 dt 79 17 0) 79 20 = dt 79 20 := rfl
  have w16 : (u2 dt 79 17 0) 80 0 = dt 80 0 := rfl
  have w17 : (u2 dt 79 17 0) 80 1 = dt 80 1 := rfl
  have w18 : (u2 dt 79 17 0) 80 2 = dt 80 2 := rfl
  have w19 : (u2 dt 79 17 0) 80 3 = dt 80 3 := rfl
  have w20 : (u2 dt 79 17 0) 80 4 = dt 80 4 := rfl
  have w21 : (u2 dt 79 17 0) 80 5 = dt 80 5 := rfl
  have E8422 : (u2 dt 79 17 0) 84 = dt 84 := funext fun _ => u2_ne (by omega)
  refine go_smp (L' := [some (.inr (.inr (some 79))), some (.inl p1), some (.inl p2), none]) (st' := []) (w' := (SH, (u2 dt 79 17 0))) rfl rfl (s_pf rfl rfl rfl rfl ⟨by omega, by omega⟩) ?_
  refine go_to (k := 3) (pc' := 8) (L' := [some (.inr (.inr (some 79))), some (.inl p1), some (.inl p2), none]) (st' := [.inl 1, .inl 0, .inl p1]) (w' := (SH, (u2 dt 79 17 0))) (fun _ => rfl) ?_
  refine go_call (Q' := _) rfl rfl rfl rfl rfl (sp_X6_isIn L xs sio (d + 37) (u2 dt 79 17 0) hI4  p1 ⟨by omega, by omega⟩ 0 ⟨by omega, by omega⟩ 1 ⟨by omega, by omega⟩ ) ?_
  rintro _ _ ⟨rfl, h23⟩
  refine ⟨rfl, ?_⟩
  rcases h23 with ⟨rfl, h23⟩ | ⟨rfl, h23⟩
  · skip
    refine go_if (k := 5) (p1 := 25) (p2 := 20) (L' := [some (.inr (.inr (some 79))), some (.inl p1), some (.inl p2), none]) (st' := [.inl 0, .inl p2]) (w' := (SH, (u2 dt 79 17 0))) (fun _ => rfl) (z_ne (a := p1) ⟨by omega, by omega⟩) (fun c24 => ?_) (fun c24 => ?_)
    · skip
      refine go_to (k := 1) (pc' := 26) (L' := [some (.inr (.inr (some 79))), some (.inl p1), some (.inl p2), none]) (st' := [.inl 3, .inl 0, .inl p2]) (w' := (SH, (u2 dt 79 17 0))) (fun _ => rfl) ?_
      refine go_call (Q' := _) rfl rfl rfl rfl rfl (sp_X6_isIn L xs sio (d + 37) (u2 dt 79 17 0) hI4  p2 ⟨by omega, by omega⟩ 0 ⟨by omega, by omega⟩ 3 ⟨by omega, by omega⟩ ) ?_
      rintro _ _ ⟨rfl, h25⟩
      refine ⟨rfl, ?_⟩
      rcases h25 with ⟨rfl, h25⟩ | ⟨rfl, h25⟩
      · skip
        refine go_to (k := 3) (pc' := 51) (L' := [some (.inr (.inr (some 79))), some (.inl p1), some (.inl p2), none]) (st' := [.inl p1, .inr (.inr (some 79))]) (w' := (SH, (u2 dt 79 17 0))) (fun _ => rfl) ?_
        have hI26 : InvC (u2 (u2 dt 79 17 0) 79 9 p1) := InvC_u2 hI4 (lo := 0) (hi := 1) rfl rfl rfl (by omega) (by omega)
        have hF27 : Fr [79, 80, 82, 83, 84] dt (u2 (u2 dt 79 17 0) 79 9 p1) := Fr_u2 hF5 (by decide)
        have w28 : (u2 (u2 dt 79 17 0) 79 9 p1) 79 2 = (u2 dt 79 17 0) 79 2 := rfl
        have w29 : (u2 (u2 dt 79 17 0) 79 9 p1) 79 9 = p1 := rfl
        have w30 : (u2 (u2 dt 79 17 0) 79 9 p1) 79 10 = (u2 dt 79 17 0) 79 10 := rfl
        have w31 : (u2 (u2 dt 79 17 0) 79 9 p1) 79 11 = (u2 dt 79 17 0) 79 11 := rfl
        have w32 : (u2 (u2 dt 79 17 0) 79 9 p1) 79 12 = (u2 dt 79 17 0) 79 12 := rfl
        have w33 : (u2 (u2 dt 79 17 0) 79 9 p1) 79 13 = (u2 dt 79 17 0) 79 13 := rfl
        have w34 : (u2 (u2 dt 79 17 0) 79 9 p1) 79 14 = (u2 dt 79 17 0) 79 14 := rfl
        have w35 : (u2 (u2 dt 79 17 0) 79 9 p1) 79 15 = (u2 dt 79 17 0) 79 15 := rfl
        have w36 : (u2 (u2 dt 79 17 0) 79 9 p1) 79 16 = (u2 dt 79 17 0) 79 16 := rfl
        have w37 : (u2 (u2 dt 79 17 0) 79 9 p1) 79 20 = (u2 dt 79 17 0) 79 20 := rfl
        have w38 : (u2 (u2 dt 79 17 0) 79 9 p1) 80 0 = (u2 dt 79 17 0) 80 0 := rfl
        have w39 : (u2 (u2 dt 79 17 0) 79 9 p1) 80 1 = (u2 dt 79 17 0) 80 1 := rfl
        have w40 : (u2 (u2 dt 79 17 0) 79 9 p1) 80 2 = (u2 dt 79 17 0) 80 2 := rfl
        have w41 : (u2 (u2 dt 79 17 0) 79 9 p1) 80 3 = (u2 dt 79 17 0) 80 3 := rfl
        have w42 : (u2 (u2 dt 79 17 0) 79 9 p1) 80 4 = (u2 dt 79 17 0) 80 4 := rfl
        have w43 : (u2 (u2 dt 79 17 0) 79 9 p1) 80 5 = (u2 dt 79 17 0) 80 5 := rfl
        have E8444 : (u2 (u2 dt 79 17 0) 79 9 p1) 84 = dt 84 := (funext fun _ => u2_ne (by omega)).trans E8422
        refine go_smp (L' := [some (.inr (.inr (some 79))), some (.inl p1), some (.inl p2), none]) (st' := []) (w' := (SH, (u2 (u2 dt 79 17 0) 79 9 p1))) rfl rfl (s_pf rfl rfl rfl rfl ⟨by omega, by omega⟩) ?_
        refine go_to (k := 2) (pc' := 56) (L' := [some (.inr (.inr (some 79))), some (.inl p1), some (.inl p2), none]) (st' := [.inl 0, .inr (.inr (some 79))]) (w' := (SH, (u2 (u2 dt 79 17 0) 79 9 p1))) (fun _ => rfl) ?_
        have hI45 : InvC (u2 (u2 (u2 dt 79 17 0) 79 9 p1) 79 13 0) := InvC_u2 hI26 (lo := 0) (hi := 501) rfl rfl rfl (by omega) (by omega)
        have hF46 : Fr [79, 80, 82, 83, 84] dt (u2 (u2 (u2 dt 79 17 0) 79 9 p1) 79 13 0) := Fr_u2 hF27 (by decide)
        have w47 : (u2 (u2 (u2 dt 79 17 0) 79 9 p1) 79 13 0) 79 2 = (u2 (u2 dt 79 17 0) 79 9 p1) 79 2 := rfl
        have w48 : (u2 (u2 (u2 dt 79 17 0) 79 9 p1) 79 13 0) 79 9 = (u2 (u2 dt 79 17 0) 79 9 p1) 79 9 := rfl
        have w49 : (u2 (u2 (u2 dt 79 17 0) 79 9 p1) 79 13 0) 79 10 = (u2 (u2 dt 79 17 0) 79 9 p1) 79 10 := rfl
        have w50 : (u2 (u2 (u2 dt 79 17 0) 79 9 p1) 79 13 0) 79 11 = (u2 (u2 dt 79 17 0) 79 9 p1) 79 11 := rfl
        have w51 : (u2 (u2 (u2 dt 79 17 0) 79 9 p1) 79 13 0) 79 12 = (u2 (u2 dt 79 17 0) 79 9 p1) 79 12 := rfl
        have w52 : (u2 (u2 (u2 dt 79 17 0) 79 9 p1) 79 13 0) 79 13 = 0 := rfl
        have w53 : (u2 (u2 (u2 dt 79 17 0) 79 9 p1) 79 13 0) 79 14 = (u2 (u2 dt 79 17 0) 79 9 p1) 79 14 := rfl
        have w54 : (u2 (u2 (u2 dt 79 17 0) 79 9 p1) 79 13 0) 79 15 = (u2 (u2 dt 79 17 0) 79 9 p1) 79 15 := rfl
        have w55 : (u2 (u2 (u2 dt 79 17 0) 79 9 p1) 79 13 0) 79 16 = (u2 (u2 dt 79 17 0) 79 9 p1) 79 16 := rfl
        have w56 : (u2 (u2 (u2 dt 79 17 0) 79 9 p1) 79 13 0) 79 20 = (u2 (u2 dt 79 17 0) 79 9 p1) 79 20 := rfl
        have w57 : (u2 (u2 (u2 dt 79 17 0) 79 9 p1) 79 13 0) 80 0 = (u2 (u2 dt 79 17 0) 79 9 p1) 80 0 := rfl
        have w58 : (u2 (u2 (u2 dt 79 17 0) 79 9 p1) 79 13 0) 80 1 = (u2 (u2 dt 79 17 0) 79 9 p1) 80 1 := rfl
        have w59 : (u2 (u2 (u2 dt 79 17 0) 79 9 p1) 79 13 0) 80 2 = (u2 (u2 dt 79 17 0) 79 9 p1) 80 2 := rfl
        have w60 : (u2 (u2 (u2 dt 79 17 0) 79 9 p1) 79 13 0) 80 3 = (u2 (u2 dt 79 17 0) 79 9 p1) 80 3 := rfl
        have w61 : (u2 (u2 (u2 dt 79 17 0) 79 9 p1) 79 13 0) 80 4 = (u2 (u2 dt 79 17 0) 79 9 p1) 80 4 := rfl
        have w62 : (u2 (u2 (u2 dt 79 17 0) 79 9 p1) 79 13 0) 80 5 = (u2 (u2 dt 79 17 0) 79 9 p1) 80 5 := rfl
        have E8463 : (u2 (u2 (u2 dt 79 17 0) 79 9 p1) 79 13 0) 84 = dt 84 := (funext fun _ => u2_ne (by omega)).trans E8444
        refine go_smp (L' := [some (.inr (.inr (some 79))), some (.inl p1), some (.inl p2), none]) (st' := []) (w' := (SH, (u2 (u2 (u2 dt 79 17 0) 79 9 p1) 79 13 0))) rfl rfl (s_pf rfl rfl rfl rfl ⟨by omega, by omega⟩) ?_
        refine go_to (k := 2) (pc' := 61) (L' := [some (.inr (.inr (some 79))), some (.inl p1), some (.inl p2), none]) (st' := [.inl 0, .inr (.inr (some 79))]) (w' := (SH, (u2 (u2 (u2 dt 79 17 0) 79 9 p1) 79 13 0))) (fun _ => rfl) ?_
        have hI64 : InvC (u2 (u2 (u2 (u2 dt 79 17 0) 79 9 p1) 79 13 0) 79 10 0) := InvC_u2 hI45 (lo := 0) (hi := 24) rfl rfl rfl (by omega) (by omega)
        have hF65 : Fr [79, 80, 82, 83, 84] dt (u2 (u2 (u2 (u2 dt 79 17 0) 79 9 p1) 79 13 0) 79 10 0) := Fr_u2 hF46 (by decide)
        have w66 : (u2 (u2 (u2 (u2 dt 79 17 0) 79 9 p1) 79 13 0) 79 10 0) 79 2 = (u2 (u2 (u2 dt 79 17 0) 79 9 p1) 79 13 0) 79 2 := rfl
        have w67 : (u2 (u2 (u2 (u2 dt 79 17 0) 79 9 p1) 79 13 0) 79 10 0) 79 9 = (u2 (u2 (u2 dt 79 17 0) 79 9 p1) 79 13 0) 79 9 := rfl
        have w68 : (u2 (u2 (u2 (u2 dt 79 17 0) 79 9 p1) 79 13 0) 79 10 0) 79 10 = 0 := rfl
        have w69 : (u2 (u2 (u2 (u2 dt 79 17 0) 79 9 p1) 79 13 0) 79 10 0) 79 11 = (u2 (u2 (u2 dt 79 17 0) 79 9 p1) 79 13 0) 79 11 := rfl
        have w70 : (u2 (u2 (u2 (u2 dt 79 17 0) 79 9 p1) 79 13 0) 79 10 0) 79 12 = (u2 (u2 (u2 dt 79 17 0) 79 9 p1) 79 13 0) 79 12 := rfl
        have w71 : (u2 (u2 (u2 (u2 dt 79 17 0) 79 9 p1) 79 13 0) 79 10 0) 79 13 = (u2 (u2 (u2 dt 79 17 0) 79 9 p1) 79 13 0) 79 13 := rfl
        have w72 : (u2 (u2 (u2 (u2 dt 79 17 0) 79 9 p1) 79 13 0) 79 10 0) 79 14 = (u2 (u2 (u2 dt 79 17 0) 79 9 p1) 79 13 0) 79 14 := rfl
        have w73 : (u2 (u2 (u2 (u2 dt 79 17 0) 79 9 p1) 79 13 0) 79 10 0) 79 15 = (u2 (u2 (u2 dt 79 17 0) 79 9 p1) 79 13 0) 79 15 := rfl
        have w74 : (u2 (u2 (u2 (u2 dt 79 17 0) 79 9 p1) 79 13 0) 79 10 0) 79 16 = (u2 (u2 (u2 dt 79 17 0) 79 9 p1) 79 13 0) 79 16 := rfl
        have w75 : (u2 (u2 (u2 (u2 dt 79 17 0) 79 9 p1) 79 13 0) 79 10 0) 79 20 = (u2 (u2 (u2 dt 79 17 0) 79 9 p1) 79 13 0) 79 20 := rfl
        have w76 : (u2 (u2 (u2 (u2 dt 79 17 0) 79 9 p1) 79 13 0) 79 10 0) 80 0 = (u2 (u2 (u2 dt 79 17 0) 79 9 p1) 79 13 0) 80 0 := rfl
        have w77 : (u2 (u2 (u2 (u2 dt 79 17 0) 79 9 p1) 79 13 0) 79 10 0) 80 1 = (u2 (u2 (u2 dt 79 17 0) 79 9 p1) 79 13 0) 80 1 := rfl
        have w78 : (u2 (u2 (u2 (u2 dt 79 17 0) 79 9 p1) 79 13 0) 79 10 0) 80 2 = (u2 (u2 (u2 dt 79 17 0) 79 9 p1) 79 13 0) 80 2 := rfl
        have w79 : (u2 (u2 (u2 (u2 dt 79 17 0) 79 9 p1) 79 13 0) 79 10 0) 80 3 = (u2 (u2 (u2 dt 79 17 0) 79 9 p1) 79 13 0) 80 3 := rfl
        have w80 : (u2 (u2 (u2 (u2 dt 79 17 0) 79 9 p1) 79 13 0) 79 10 0) 80 4 = (u2 (u2 (u2 dt 79 17 0) 79 9 p1) 79 13 0) 80 4 := rfl
        have w81 : (u2 (u2 (u2 (u2 dt 79 17 0) 79 9 p1) 79 13 0) 79 10 0) 80 5 = (u2 (u2 (u2 dt 79 17 0) 79 9 p1) 79 13 0) 80 5 := rfl
        have E8482 : (u2 (u2 (u2 (u2 dt 79 17 0) 79 9 p1) 79 13 0) 79 10 0) 84 = dt 84 := (funext fun _ => u2_ne (by omega)).trans E8463
        refine go_smp (L' := [some (.inr (.inr (some 79))), some (.inl p1), some (.inl p2), none]) (st' := []) (w' := (SH, (u2 (u2 (u2 (u2 dt 79 17 0) 79 9 p1) 79 13 0) 79 10 0))) rfl rfl (s_pf rfl rfl rfl rfl ⟨by omega, by omega⟩) ?_
        refine go_to (k := 2) (pc' := 66) (L' := [some (.inr (.inr (some 79))), some (.inl p1), some (.inl p2), none]) (st' := [.inl 0, .inr (.inr (some 79))]) (w' := (SH, (u2 (u2 (u2 (u2 dt 79 17 0) 79 9 p1) 79 13 0) 79 10 0))) (fun _ => rfl) ?_
        have hI83 : InvC (u2 (u2 (u2 (u2 (u2 dt 79 17 0) 79 9 p1) 79 13 0) 79 10 0) 79 11 0) := InvC_u2 hI64 (lo := 0) (hi := 510) rfl rfl rfl (by omega) (by omega)
        have hF84 : Fr [79, 80, 82, 83, 84] dt (u2 (u2 (u2 (u2 (u2 dt 79 17 0) 79 9 p1) 79 13 0) 79 10 0) 79 11 0) := Fr_u2 hF65 (by decide)
        have w85 : (u2 (u2 (u2 (u2 (u2 dt 79 17 0) 79 9 p1) 79 13 0) 79 10 0) 79 11 0) 79 2 = (u2 (u2 (u2 (u2 dt 79 17 0) 79 9 p1) 79 13 0) 79 10 0) 79 2 := rfl
        have w86 : (u2 (u2 (u2 (u2 (u2 dt 79 17 0) 79 9 p1) 79 13 0) 79 10 0) 79 11 0) 79 9 = (u2 (u2 (u2 (u2 dt 79 17 0) 79 9 p1) 79 13 0) 79 10 0) 79 9 := rfl
        have w87 : (u2 (u2 (u2 (u2 (u2 dt 79 17 0) 79 9 p1) 79 13 0) 79 10 0) 79 11 0) 79 10 = (u2 (u2 (u2 (u2 dt 79 17 0) 79 9 p1) 79 13 0) 79 10 0) 79 10 := rfl
        have w88 : (u2 (u2 (u2 (u2 (u2 dt 79 17 0) 79 9 p1) 79 13 0) 79 10 0) 79 11 0) 79 11 = 0 := rfl
        have w89 : (u2 (u2 (u2 (u2 (u2 dt 79 17 0) 79 9 p1) 79 13 0) 79 10 0) 79 11 0) 79 12 = (u2 (u2 (u2 (u2 dt 79 17 0) 79 9 p1) 79 13 0) 79 10 0) 79 12 := rfl
        have w90 : (u2 (u2 (u2 (u2 (u2 dt 79 17 0) 79 9 p1) 79 13 0) 79 10 0) 79 11 0) 79 13 = (u2 (u2 (u2 (u2 dt 79 17 0) 79 9 p1) 79 13 0) 79 10 0) 79 13 := rfl
        have w91 : (u2 (u2 (u2 (u2 (u2 dt 79 17 0) 79 9 p1) 79 13 0) 79 10 0) 79 11 0) 79 14 = (u2 (u2 (u2 (u2 dt 79 17 0) 79 9 p1) 79 13 0) 79 10 0) 79 14 := rfl
        have w92 : (u2 (u2 (u2 (u2 (u2 dt 79 17 0) 79 9 p1) 79 13 0) 79 10 0) 79 11 0) 79 15 = (u2 (u2 (u2 (u2 dt 79 17 0) 79 9 p1) 79 13 0) 79 10 0) 79 15 := rfl
        have w93 : (u2 (u2 (u2 (u2 (u2 dt 79 17 0) 79 9 p1) 79 13 0) 79 10 0) 79 11 0) 79 16 = (u2 (u2 (u2 (u2 dt 79 17 0) 79 9 p1) 79 13 0) 79 10 0) 79 16 := rfl
        have w94 : (u2 (u2 (u2 (u2 (u2 dt 79 17 0) 79 9 p1) 79 13 0) 79 10 0) 79 11 0) 79 20 = (u2 (u2 (u2 (u2 dt 79 17 0) 79 9 p1) 79 13 0) 79 10 0) 79 20 := rfl
        have w95 : (u2 (u2 (u2 (u2 (u2 dt 79 17 0) 79 9 p1) 79 13 0) 79 10 0) 79 11 0) 80 0 = (u2 (u2 (u2 (u2 dt 79 17 0) 79 9 p1) 79 13 0) 79 10 0) 80 0 := rfl
        have w96 : (u2 (u2 (u2 (u2 (u2 dt 79 17 0) 79 9 p1) 79 13 0) 79 10 0) 79 11 0) 80 1 = (u2 (u2 (u2 (u2 dt 79 17 0) 79 9 p1) 79 13 0) 79 10 0) 80 1 := rfl
        have w97 : (u2 (u2 (u2 (u2 (u2 dt 79 17 0) 79 9 p1) 79 13 0) 79 10 0) 79 11 0) 80 2 = (u2 (u2 (u2 (u2 dt 79 17 0) 79 9 p1) 79 13 0) 79 10 0) 80 2 := rfl
        have w98 : (u2 (u2 (u2 (u2 (u2 dt 79 17 0) 79 9 p1) 79 13 0) 79 10 0) 79 11 0) 80 3 = (u2 (u2 (u2 (u2 dt 79 17 0) 79 9 p1) 79 13 0) 79 10 0) 80 3 := rfl
        have w99 : (u2 (u2 (u2 (u2 (u2 dt 79 17 0) 79 9 p1) 79 13 0) 79 10 0) 79 11 0) 80 4 = (u2 (u2 (u2 (u2 dt 79 17 0) 79 9 p1) 79 13 0) 79 10 0) 80 4 := rfl
        have w100 : (u2 (u2 (u2 (u2 (u2 dt 79 17 0) 79 9 p1) 79 13 0) 79 10 0) 79 11 0) 80 5 = (u2 (u2 (u2 (u2 dt 79 17 0) 79 9 p1) 79 13 0) 79 10 0) 80 5 := rfl
        have E84101 : (u2 (u2 (u2 (u2 (u2 dt 79 17 0) 79 9 p1) 79 13 0) 79 10 0) 79 11 0) 84 = dt 84 := (funext fun _ => u2_ne (by omega)).trans E8482
        refine go_smp (L' := [some (.inr (.inr (some 79))), some (.inl p1), some (.inl p2), none]) (st' := []) (w' := (SH, (u2 (u2 (u2 (u2 (u2 dt 79 17 0) 79 9 p1) 79 13 0) 79 10 0) 79 11 0))) rfl rfl (s_pf rfl rfl rfl rfl ⟨by omega, by omega⟩) ?_
        refine go_to (k := 1) (pc' := 70) (L' := [some (.inr (.inr (some 79))), some (.inl p1), some (.inl p2), none]) (st' := [.inr (.inr (some 79))]) (w' := (SH, (u2 (u2 (u2 (u2 (u2 dt 79 17 0) 79 9 p1) 79 13 0) 79 10 0) 79 11 0))) (fun _ => rfl) ?_
        refine go_call (Q' := _) rfl rfl rfl rfl rfl (sp_X6_next0 L xs sio (d + 31) (u2 (u2 (u2 (u2 (u2 dt 79 17 0) 79 9 p1) 79 13 0) 79 10 0) 79 11 0) hI83   (by first | trivial | omega | exact hI4 (by omega) (by omega) | exact hI5 (by omega) (by omega))) ?_
        rintro _ _ ⟨dt103, rfl, hI104, hF105, h102⟩
        refine ⟨rfl, ?_⟩
        have hF106 : Fr [79, 80, 82, 83, 84] dt dt103 := Fr_tr hF84 hF105 (by decide)
        have hM107 : MW (dt103 80) := MW_fr hM hF105 (by decide)
        have w108 : dt103 80 0 = (u2 (u2 (u2 (u2 (u2 dt 79 17 0) 79 9 p1) 79 13 0) 79 10 0) 79 11 0) 80 0 := hF105 80 (by decide) 0
        have w109 : dt103 80 1 = (u2 (u2 (u2 (u2 (u2 dt 79 17 0) 79 9 p1) 79 13 0) 79 10 0) 79 11 0) 80 1 := hF105 80 (by decide) 1
        have w110 : dt103 80 2 = (u2 (u2 (u2 (u2 (u2 dt 79 17 0) 79 9 p1) 79 13 0) 79 10 0) 79 11 0) 80 2 := hF105 80 (by decide) 2
        have w111 : dt103 80 3 = (u2 (u2 (u2 (u2 (u2 dt 79 17 0) 79 9 p1) 79 13 0) 79 10 0) 79 11 0) 80 3 := hF105 80 (by decide) 3
        have w112 : dt103 80 4 = (u2 (u2 (u2 (u2 (u2 dt 79 17 0) 79 9 p1) 79 13 0) 79 10 0) 79 11 0) 80 4 := hF105 80 (by decide) 4
        have w113 : dt103 80 5 = (u2 (u2 (u2 (u2 (u2 dt 79 17 0) 79 9 p1) 79 13 0) 79 10 0) 79 11 0) 80 5 := hF105 80 (by decide) 5
        have E84114 : dt103 84 = dt 84 := (funext (hF105 84 (by decide))).trans E84101
        rcases h102 with ⟨rfl, h102⟩
        obtain ⟨h102_0, h102_1, h102_2, h102_3, h102_4, h102_5, h102_6, h102_7, h102_8⟩ := h102
        refine go_to (k := 2) (pc' := 75) (L' := [some (.inr (.inr (some 79))), some (.inl p1), some (.inl p2), some (.inl 1)]) (st' := []) (w' := (SH, dt103)) (fun _ => rfl) ?_
        have loop190 : ∀ (k_ : Nat) (l75_3 : Int) (dt172 : Nat → Nat → Int) (hI173 : InvC dt172) (hF174 : Fr [79, 80, 82, 83, 84] dt dt172) (hM_dt172 : MW (dt172 80)) (i175 : 0 ≤ l75_3 ∧ l75_3 ≤ 1) (i176 : l75_3 = 1 → (¬ dt172 79 14 = 0 → dt172 79 15 + 1 ≤ dt172 79 13) ∧ dt172 79 13 ≤ 500) (i177 : dt172 79 15 ≤ 500) (i178 : l75_3 = 1 → dt172 79 11 ≤ dt172 79 15) (i179 : l75_3 = 1 → p1 = 1 → dt172 79 10 ≤ 16) (i180 : l75_3 = 1 → p1 = 0 → ARW (dt172 82) (dt172 79 10)) (i181 : l75_3 = 1 → p1 = 1 → LRW (dt172 83) (dt172 84) (dt172 79 10) (dt172 79 11)) (i182 : dt172 79 2 = dt 79 2) (i183 : dt172 79 9 = p1) (i184 : dt172 80 0 = dt103 80 0) (i185 : dt172 80 1 = dt103 80 1) (i186 : dt172 80 2 = dt103 80 2) (i187 : dt172 80 3 = dt103 80 3) (i188 : dt172 80 4 = dt103 80 4) (i189 : dt172 80 5 = dt103 80 5), (l75_3 * (502 - dt172 79 15)).toNat < k_ → GO (am_XX L xs sio) (d + 38) 174 75 [some (.inr (.inr (some 79))), some (.inl p1), some (.inl p2), some (.inl l75_3)] [] (SH, dt172) (fun r w2 => ∃ dt2 : Nat → Nat → Int, w2 = (SH, dt2) ∧ InvC dt2 ∧ Fr [79, 80, 82, 83, 84] dt dt2 ∧ ((∃ v : Int, r = some (.inl v) ∧ ((-1) ≤ v ∧ v ≤ 24) ∧ (dt2 79 12 = 0) ∧ (dt2 79 2 = dt 79 2) ∧ (MW (dt2 80)) ∧ (dt2 80 0 = dt 80 0) ∧ (dt2 80 1 = dt 80 1) ∧ (dt2 80 2 = dt 80 2) ∧ (dt2 80 3 = dt 80 3) ∧ (dt2 80 4 = dt 80 4) ∧ (dt2 80 5 = dt 80 5)))) := by
          intro k_
          induction k_ with
          | zero => intro l75_3 dt172 hI173 hF174 hM_dt172 i175 i176 i177 i178 i179 i180 i181 i182 i183 i184 i185 i186 i187 i188 i189 hm; exact absurd hm (Nat.not_lt_zero _)
          | succ k_ ih_loop190 =>
            intro l75_3 dt172 hI173 hF174 hM_dt172 i175 i176 i177 i178 i179 i180 i181 i182 i183 i184 i185 i186 i187 i188 i189 hm
            have hI4 := i180
            have hI5 := i181
            have hm1 : l75_3 = 1 → (l75_3 * (502 - dt172 79 15)).toNat = (502 - dt172 79 15).toNat := fun e => by rw [e, Int.one_mul]
            refine go_if (k := 2) (p1 := 123) (p2 := 79) (L' := [some (.inr (.inr (some 79))), some (.inl p1), some (.inl p2), some (.inl l75_3)]) (st' := []) (w' := (SH, dt172)) (fun _ => rfl) (z_eq (a := l75_3) ⟨by omega, by omega⟩) (fun c191 => ?_) (fun c191 => ?_)
            · skip
              refine go_to (k := 2) (pc' := 125) (L' := [some (.inr (.inr (some 79))), some (.inl p1), some (.inl p2), some (.inl l75_3)]) (st' := [.inl 0, .inr (.inr (some 79))]) (w' := (SH, dt172)) (fun _ => rfl) ?_
              have hI192 : InvC (u2 dt172 79 12 0) := InvC_u2 hI173 (lo := 0) (hi := 500) rfl rfl rfl (by omega) (by omega)
              have hF193 : Fr [79, 80, 82, 83, 84] dt (u2 dt172 79 12 0) := Fr_u2 hF174 (by decide)
              have w194 : (u2 dt172 79 12 0) 79 2 = dt172 79 2 := rfl
              have w195 : (u2 dt172 79 12 0) 79 9 = dt172 79 9 := rfl
              have w196 : (u2 dt172 79 12 0) 79 10 = dt172 79 10 := rfl
              have w197 : (u2 dt172 79 12 0) 79 11 = dt172 79 11 := rfl
              have w198 : (u2 dt172 79 12 0) 79 12 = 0 := rfl
              have w199 : (u2 dt172 79 12 0) 79 13 = dt172 79 13 := rfl
              have w200 : (u2 dt172 79 12 0) 79 14 = dt172 79 14 := rfl
              have w201 : (u2 dt172 79 12 0) 79 15 = dt172 79 15 := rfl
              have w202 : (u2 dt172 79 12 0) 79 16 = dt172 79 16 := rfl
              have w203 : (u2 dt172 79 12 0) 79 20 = dt172 79 20 := rfl
              have w204 : (u2 dt172 79 12 0) 80 0 = dt172 80 0 := rfl
              have w205 : (u2 dt172 79 12 0) 80 1 = dt172 80 1 := rfl
              have w206 : (u2 dt172 79 12 0) 80 2 = dt172 80 2 := rfl
              have w207 : (u2 dt172 79 12 0) 80 3 = dt172 80 3 := rfl
              have w208 : (u2 dt172 79 12 0) 80 4 = dt172 80 4 := rfl
              have w209 : (u2 dt172 79 12 0) 80 5 = dt172 80 5 := rfl
              have E84210 : (u2 dt172 79 12 0) 84 = dt172 84 := funext fun _ => u2_ne (by omega)
              refine go_smp (L' := [some (.inr (.inr (some 79))), some (.inl p1), some (.inl p2), some (.inl l75_3)]) (st' := []) (w' := (SH, (u2 dt172 79 12 0))) rfl rfl (s_pf rfl rfl rfl rfl ⟨by omega, by omega⟩) ?_
              have r211 : (-2147483648) ≤ dt172 79 17 ∧ dt172 79 17 ≤ 2147483647 := InvC_get hI173 79 17 rfl rfl
              refine go_to (k := 3) (pc' := 133) (L' := [some (.inr (.inr (some 79))), some (.inl p1), some (.inl p2), some (.inl l75_3)]) (st' := [.inl (dt172 79 17), .inr (.inr (some 79))]) (w' := (SH, (u2 dt172 79 12 0))) (fun _ => rfl) ?_
              have hI212 : InvC (u2 (u2 dt172 79 12 0) 79 19 (dt172 79 17)) := InvC_u2 hI192 (lo := -2147483648) (hi := 2147483647) rfl rfl rfl (by omega) (by omega)
              have hF213 : Fr [79, 80, 82, 83, 84] dt (u2 (u2 dt172 79 12 0) 79 19 (dt172 79 17)) := Fr_u2 hF193 (by decide)
              have w214 : (u2 (u2 dt172 79 12 0) 79 19 (dt172 79 17)) 79 2 = (u2 dt172 79 12 0) 79 2 := rfl
              have w215 : (u2 (u2 dt172 79 12 0) 79 19 (dt172 79 17)) 79 9 = (u2 dt172 79 12 0) 79 9 := rfl
              have w216 : (u2 (u2 dt172 79 12 0) 79 19 (dt172 79 17)) 79 10 = (u2 dt172 79 12 0) 79 10 := rfl
              have w217 : (u2 (u2 dt172 79 12 0) 79 19 (dt172 79 17)) 79 11 = (u2 dt172 79 12 0) 79 11 := rfl
              have w218 : (u2 (u2 dt172 79 12 0) 79 19 (dt172 79 17)) 79 12 = (u2 dt172 79 12 0) 79 12 := rfl
              have w219 : (u2 (u2 dt172 79 12 0) 79 19 (dt172 79 17)) 79 13 = (u2 dt172 79 12 0) 79 13 := rfl
              have w220 : (u2 (u2 dt172 79 12 0) 79 19 (dt172 79 17)) 79 14 = (u2 dt172 79 12 0) 79 14 := rfl
              have w221 : (u2 (u2 dt172 79 12 0) 79 19 (dt172 79 17)) 79 15 = (u2 dt172 79 12 0) 79 15 := rfl
              have w222 : (u2 (u2 dt172 79 12 0) 79 19 (dt172 79 17)) 79 16 = (u2 dt172 79 12 0) 79 16 := rfl
              have w223 : (u2 (u2 dt172 79 12 0) 79 19 (dt172 79 17)) 79 20 = (u2 dt172 79 12 0) 79 20 := rfl
              have w224 : (u2 (u2 dt172 79 12 0) 79 19 (dt172 79 17)) 80 0 = (u2 dt172 79 12 0) 80 0 := rfl
              have w225 : (u2 (u2 dt172 79 12 0) 79 19 (dt172 79 17)) 80 1 = (u2 dt172 79 12 0) 80 1 := rfl
              have w226 : (u2 (u2 dt172 79 12 0) 79 19 (dt172 79 17)) 80 2 = (u2 dt172 79 12 0) 80 2 := rfl
              have w227 : (u2 (u2 dt172 79 12 0) 79 19 (dt172 79 17)) 80 3 = (u2 dt172 79 12 0) 80 3 := rfl
              have w228 : (u2 (u2 dt172 79 12 0) 79 19 (dt172 79 17)) 80 4 = (u2 dt172 79 12 0) 80 4 := rfl
              have w229 : (u2 (u2 dt172 79 12 0) 79 19 (dt172 79 17)) 80 5 = (u2 dt172 79 12 0) 80 5 := rfl
              have E84230 : (u2 (u2 dt172 79 12 0) 79 19 (dt172 79 17)) 84 = dt172 84 := (funext fun _ => u2_ne (by omega)).trans E84210
              refine go_smp (L' := [some (.inr (.inr (some 79))), some (.inl p1), some (.inl p2), some (.inl l75_3)]) (st' := []) (w' := (SH, (u2 (u2 dt172 79 12 0) 79 19 (dt172 79 17)))) rfl rfl (s_pf rfl rfl rfl rfl ⟨by omega, by omega⟩) ?_
              refine go_if (k := 3) (p1 := 145) (p2 := 141) (L' := [some (.inr (.inr (some 79))), some (.inl p1), some (.inl p2), some (.inl l75_3)]) (st' := [.inr (.inr (some 79))]) (w' := (SH, (u2 (u2 dt172 79 12 0) 79 19 (dt172 79 17)))) (fun _ => rfl) (z_eq (a := l75_3) ⟨by omega, by omega⟩) (fun c231 => ?_) (fun c231 => ?_)
              · skip
                have r232 : (-2147483648) ≤ dt172 79 18 ∧ dt172 79 18 ≤ 2147483647 := InvC_get hI173 79 18 rfl rfl
                refine go_to (k := 2) (pc' := 149) (L' := [some (.inr (.inr (some 79))), some (.inl p1), some (.inl p2), some (.inl l75_3)]) (st' := [.inl (dt172 79 18), .inr (.inr (some 79))]) (w' := (SH, (u2 (u2 dt172 79 12 0) 79 19 (dt172 79 17)))) (fun _ => rfl) ?_
                have hI233 : InvC (u2 (u2 (u2 dt172 79 12 0) 79 19 (dt172 79 17)) 79 21 (dt172 79 18)) := InvC_u2 hI212 (lo := -2147483648) (hi := 2147483647) rfl rfl rfl (by omega) (by omega)
                have hF234 : Fr [79, 80, 82, 83, 84] dt (u2 (u2 (u2 dt172 79 12 0) 79 19 (dt172 79 17)) 79 21 (dt172 79 18)) := Fr_u2 hF213 (by decide)
                have w235 : (u2 (u2 (u2 dt172 79 12 0) 79 19 (dt172 79 17)) 79 21 (dt172 79 18)) 79 2 = (u2 (u2 dt172 79 12 0) 79 19 (dt172 79 17)) 79 2 := rfl
                have w236 : (u2 (u2 (u2 dt172 79 12 0) 79 19 (dt172 79 17)) 79 21 (dt172 79 18)) 79 9 = (u2 (u2 dt172 79 12 0) 79 19 (dt172 79 17)) 79 9 := rfl
                have w237 : (u2 (u2 (u2 dt172 79 12 0) 79 19 (dt172 79 17)) 79 21 (dt172 79 18)) 79 10 = (u2 (u2 dt172 79 12 0) 79 19 (dt172 79 17)) 79 10 := rfl
                have w238 : (u2 (u2 (u2 dt172 79 12 0) 79 19 (dt172 79 17)) 79 21 (dt172 79 18)) 79 11 = (u2 (u2 dt172 79 12 0) 79 19 (dt172 79 17)) 79 11 := rfl
                have w239 : (u2 (u2 (u2 dt172 79 12 0) 79 19 (dt172 79 17)) 79 21 (dt172 79 18)) 79 12 = (u2 (u2 dt172 79 12 0) 79 19 (dt172 79 17)) 79 12 := rfl
                have w240 : (u2 (u2 (u2 dt172 79 12 0) 79 19 (dt172 79 17)) 79 21 (dt172 79 18)) 79 13 = (u2 (u2 dt172 79 12 0) 79 19 (dt172 79 17)) 79 13 := rfl
                have w241 : (u2 (u2 (u2 dt172 79 12 0) 79 19 (dt172 79 17)) 79 21 (dt172 79 18)) 79 14 = (u2 (u2 dt172 79 12 0) 79 19 (dt172 79 17)) 79 14 := rfl
                have w242 : (u2 (u2 (u2 dt172 79 12 0) 79 19 (dt172 79 17)) 79 21 (dt172 79 18)) 79 15 = (u2 (u2 dt172 79 12 0) 79 19 (dt172 79 17)) 79 15 := rfl
                have w243 : (u2 (u2 (u2 dt172 79 12 0) 79 19 (dt172 79 17)) 79 21 (dt172 79 18)) 79 16 = (u2 (u2 dt172 79 12 0) 79 19 (dt172 79 17)) 79 16 := rfl
                have w244 : (u2 (u2 (u2 dt172 79 12 0) 79 19 (dt172 79 17)) 79 21 (dt172 79 18)) 79 20 = (u2 (u2 dt172 79 12 0) 79 19 (dt172 79 17)) 79 20 := rfl
                have w245 : (u2 (u2 (u2 dt172 79 12 0) 79 19 (dt172 79 17)) 79 21 (dt172 79 18)) 80 0 = (u2 (u2 dt172 79 12 0) 79 19 (dt172 79 17)) 80 0 := rfl
                have w246 : (u2 (u2 (u2 dt172 79 12 0) 79 19 (dt172 79 17)) 79 21 (dt172 79 18)) 80 1 = (u2 (u2 dt172 79 12 0) 79 19 (dt172 79 17)) 80 1 := rfl
                have w247 : (u2 (u2 (u2 dt172 79 12 0) 79 19 (dt172 79 17)) 79 21 (dt172 79 18)) 80 2 = (u2 (u2 dt172 79 12 0) 79 19 (dt172 79 17)) 80 2 := rfl
                have w248 : (u2 (u2 (u2 dt172 79 12 0) 79 19 (dt172 79 17)) 79 21 (dt172 79 18)) 80 3 = (u2 (u2 dt172 79 12 0) 79 19 (dt172 79 17)) 80 3 := rfl
                have w249 : (u2 (u2 (u2 dt172 79 12 0) 79 19 (dt172 79 17)) 79 21 (dt172 79 18)) 80 4 = (u2 (u2 dt172 79 12 0) 79 19 (dt172 79 17)) 80 4 := rfl
                have w250 : (u2 (u2 (u2 dt172 79 12 0) 79 19 (dt172 79 17)) 79 21 (dt172 79 18)) 80 5 = (u2 (u2 dt172 79 12 0) 79 19 (dt172 79 17)) 80 5 := rfl
                have E84251 : (u2 (u2 (u2 dt172 79 12 0) 79 19 (dt172 79 17)) 79 21 (dt172 79 18)) 84 = dt172 84 := (funext fun _ => u2_ne (by omega)).trans E84230
                refine go_smp (L' := [some (.inr (.inr (some 79))), some (.inl p1), some (.inl p2), some (.inl l75_3)]) (st' := []) (w' := (SH, (u2 (u2 (u2 dt172 79 12 0) 79 19 (dt172 79 17)) 79 21 (dt172 79 18)))) rfl rfl (s_pf rfl rfl rfl rfl ⟨by omega, by omega⟩) ?_
                refine go_if (k := 2) (p1 := 158) (p2 := 156) (L' := [some (.inr (.inr (some 79))), some (.inl p1), some (.inl p2), some (.inl l75_3)]) (st' := []) (w' := (SH, (u2 (u2 (u2 dt172 79 12 0) 79 19 (dt172 79 17)) 79 21 (dt172 79 18)))) (fun _ => rfl) (z_ne (a := l75_3) ⟨by omega, by omega⟩) (fun c252 => ?_) (fun c252 => ?_)
                · skip
                  refine go_to (k := 2) (pc' := 160) (L' := [some (.inr (.inr (some 79))), some (.inl p1), some (.inl p2), some (.inl l75_3)]) (st' := [.inl p2, .inr (.inr (some 79))]) (w' := (SH, (u2 (u2 (u2 dt172 79 12 0) 79 19 (dt172 79 17)) 79 21 (dt172 79 18)))) (fun _ => rfl) ?_
                  refine go_call (Q' := _) rfl rfl rfl rfl rfl (sp_X6_keeps_k1 L xs sio (d + 37) (u2 (u2 (u2 dt172 79 12 0) 79 19 (dt172 79 17)) 79 21 (dt172 79 18)) hI233 hM_dt172  p2 ⟨by omega, by omega⟩ (by first | trivial | omega | exact hI4 (by omega) (by omega) | exact hI5 (by omega) (by omega)) (by first | trivial | omega | exact hI4 (by omega) (by omega) | exact hI5 (by omega) (by omega)) (by first | trivial | omega | exact hI4 (by omega) (by omega) | exact hI5 (by omega) (by omega)) (by first | trivial | omega | exact hI4 (by omega) (by omega) | exact hI5 (by omega) (by omega))) ?_
                  rintro _ _ ⟨dt254, rfl, hI255, hF256, h253⟩
                  refine ⟨rfl, ?_⟩
                  have hF257 : Fr [79, 80, 82, 83, 84] dt dt254 := Fr_tr hF234 hF256 (by decide)
                  have w258 : dt254 79 2 = (u2 (u2 (u2 dt172 79 12 0) 79 19 (dt172 79 17)) 79 21 (dt172 79 18)) 79 2 := hF256 79 (by decide) 2
                  have w259 : dt254 79 9 = (u2 (u2 (u2 dt172 79 12 0) 79 19 (dt172 79 17)) 79 21 (dt172 79 18)) 79 9 := hF256 79 (by decide) 9
                  have w260 : dt254 79 10 = (u2 (u2 (u2 dt172 79 12 0) 79 19 (dt172 79 17)) 79 21 (dt172 79 18)) 79 10 := hF256 79 (by decide) 10
                  have w261 : dt254 79 11 = (u2 (u2 (u2 dt172 79 12 0) 79 19 (dt172 79 17)) 79 21 (dt172 79 18)) 79 11 := hF256 79 (by decide) 11
                  have w262 : dt254 79 12 = (u2 (u2 (u2 dt172 79 12 0) 79 19 (dt172 79 17)) 79 21 (dt172 79 18)) 79 12 := hF256 79 (by decide) 12
                  have w263 : dt254 79 13 = (u2 (u2 (u2 dt172 79 12 0) 79 19 (dt172 79 17)) 79 21 (dt172 79 18)) 79 13 := hF256 79 (by decide) 13
                  have w264 : dt254 79 14 = (u2 (u2 (u2 dt172 79 12 0) 79 19 (dt172 79 17)) 79 21 (dt172 79 18)) 79 14 := hF256 79 (by decide) 14
                  have w265 : dt254 79 15 = (u2 (u2 (u2 dt172 79 12 0) 79 19 (dt172 79 17)) 79 21 (dt172 79 18)) 79 15 := hF256 79 (by decide) 15
                  have w266 : dt254 79 16 = (u2 (u2 (u2 dt172 79 12 0) 79 19 (dt172 79 17)) 79 21 (dt172 79 18)) 79 16 := hF256 79 (by decide) 16
                  have w267 : dt254 79 20 = (u2 (u2 (u2 dt172 79 12 0) 79 19 (dt172 79 17)) 79 21 (dt172 79 18)) 79 20 := hF256 79 (by decide) 20
                  have E84268 : dt254 84 = dt172 84 := (funext (hF256 84 (by decide))).trans E84251
                  rcases h253 with ⟨rfl, h253⟩
                  have hM269 : MW (dt254 80) := h253.1
                  obtain ⟨h253_0, h253_1, h253_2, h253_3, h253_4, h253_5, h253_6⟩ := h253
                  have r270 : 0 ≤ dt254 79 10 ∧ dt254 79 10 ≤ 24 := InvC_get hI255 79 10 rfl rfl
                  refine go_ret (k := 3) (r := some (.inl (dt254 79 10))) (w1 := (SH, dt254)) (fun _ => rfl) ?_
                  exact ⟨dt254, rfl, hI255, hF257, ⟨_, rfl, ⟨by omega, by omega⟩, ⟨by first | trivial | omega, by first | trivial | omega, by first | assumption | exact hM, by first | trivial | omega, by first | trivial | omega, by first | trivial | omega, by first | trivial | omega, by first | trivial | omega, by first | trivial | omega⟩⟩⟩
                · skip
                  refine go_ret (k := 2) (r := some (.inl (-1))) (w1 := (SH, (u2 (u2 (u2 dt172 79 12 0) 79 19 (dt172 79 17)) 79 21 (dt172 79 18)))) (fun _ => rfl) ?_
                  exact ⟨(u2 (u2 (u2 dt172 79 12 0) 79 19 (dt172 79 17)) 79 21 (dt172 79 18)), rfl, hI233, hF234, ⟨_, rfl, ⟨by omega, by omega⟩, ⟨by first | trivial | omega, by first | trivial | omega, by first | assumption | exact hM, by first | trivial | omega, by first | trivial | omega, by first | trivial | omega, by first | trivial | omega, by first | trivial | omega, by first | trivial | omega⟩⟩⟩
              · skip
                refine go_to (k := 2) (pc' := 149) (L' := [some (.inr (.inr (some 79))), some (.inl p1), some (.inl p2), some (.inl l75_3)]) (st' := [.inl (-1), .inr (.inr (some 79))]) (w' := (SH, (u2 (u2 dt172 79 12 0) 79 19 (dt172 79 17)))) (fun _ => rfl) ?_
                have hI271 : InvC (u2 (u2 (u2 dt172 79 12 0) 79 19 (dt172 79 17)) 79 21 (-1)) := InvC_u2 hI212 (lo := -2147483648) (hi := 2147483647) rfl rfl rfl (by omega) (by omega)
                have hF272 : Fr [79, 80, 82, 83, 84] dt (u2 (u2 (u2 dt172 79 12 0) 79 19 (dt172 79 17)) 79 21 (-1)) := Fr_u2 hF213 (by decide)
                have w273 : (u2 (u2 (u2 dt172 79 12 0) 79 19 (dt172 79 17)) 79 21 (-1)) 79 2 = (u2 (u2 dt172 79 12 0) 79 19 (dt172 79 17)) 79 2 := rfl
                have w274 : (u2 (u2 (u2 dt172 79 12 0) 79 19 (dt172 79 17)) 79 21 (-1)) 79 9 = (u2 (u2 dt172 79 12 0) 79 19 (dt172 79 17)) 79 9 := rfl
                have w275 : (u2 (u2 (u2 dt172 79 12 0) 79 19 (dt172 79 17)) 79 21 (-1)) 79 10 = (u2 (u2 dt172 79 12 0) 79 19 (dt172 79 17)) 79 10 := rfl
                have w276 : (u2 (u2 (u2 dt172 79 12 0) 79 19 (dt172 79 17)) 79 21 (-1)) 79 11 = (u2 (u2 dt172 79 12 0) 79 19 (dt172 79 17)) 79 11 := rfl
                have w277 : (u2 (u2 (u2 dt172 79 12 0) 79 19 (dt172 79 17)) 79 21 (-1)) 79 12 = (u2 (u2 dt172 79 12 0) 79 19 (dt172 79 17)) 79 12 := rfl
                have w278 : (u2 (u2 (u2 dt172 79 12 0) 79 19 (dt172 79 17)) 79 21 (-1)) 79 13 = (u2 (u2 dt172 79 12 0) 79 19 (dt172 79 17)) 79 13 := rfl
                have w279 : (u2 (u2 (u2 dt172 79 12 0) 79 19 (dt172 79 17)) 79 21 (-1)) 79 14 = (u2 (u2 dt172 79 12 0) 79 19 (dt172 79 17)) 79 14 := rfl
                have w280 : (u2 (u2 (u2 dt172 79 12 0) 79 19 (dt172 79 17)) 79 21 (-1)) 79 15 = (u2 (u2 dt172 79 12 0) 79 19 (dt172 79 17)) 79 15 := rfl
                have w281 : (u2 (u2 (u2 dt172 79 12 0) 79 19 (dt172 79 17)) 79 21 (-1)) 79 16 = (u2 (u2 dt172 79 12 0) 79 19 (dt172 79 17)) 79 16 := rfl
                have w282 : (u2 (u2 (u2 dt172 79 12 0) 79 19 (dt172 79 17)) 79 21 (-1)) 79 20 = (u2 (u2 dt172 79 12 0) 79 19 (dt172 79 17)) 79 20 := rfl
                have w283 : (u2 (u2 (u2 dt172 79 12 0) 79 19 (dt172 79 17)) 79 21 (-1)) 80 0 = (u2 (u2 dt172 79 12 0) 79 19 (dt172 79 17)) 80 0 := rfl
                have w284 : (u2 (u2 (u2 dt172 79 12 0) 79 19 (dt172 79 17)) 79 21 (-1)) 80 1 = (u2 (u2 dt172 79 12 0) 79 19 (dt172 79 17)) 80 1 := rfl
                have w285 : (u2 (u2 (u2 dt172 79 12 0) 79 19 (dt172 79 17)) 79 21 (-1)) 80 2 = (u2 (u2 dt172 79 12 0) 79 19 (dt172 79 17)) 80 2 := rfl
                have w286 : (u2 (u2 (u2 dt172 79 12 0) 79 19 (dt172 79 17)) 79 21 (-1)) 80 3 = (u2 (u2 dt172 79 12 0) 79 19 (dt172 79 17)) 80 3 := rfl
                have w287 : (u2 (u2 (u2 dt172 79 12 0) 79 19 (dt172 79 17)) 79 21 (-1)) 80 4 = (u2 (u2 dt172 79 12 0) 79 19 (dt172 79 17)) 80 4 := rfl
                have w288 : (u2 (u2 (u2 dt172 79 12 0) 79 19 (dt172 79 17)) 79 21 (-1)) 80 5 = (u2 (u2 dt172 79 12 0) 79 19 (dt172 79 17)) 80 5 := rfl
                have E84289 : (u2 (u2 (u2 dt172 79 12 0) 79 19 (dt172 79 17)) 79 21 (-1)) 84 = dt172 84 := (funext fun _ => u2_ne (by omega)).trans E84230
                refine go_smp (L' := [some (.inr (.inr (some 79))), some (.inl p1), some (.inl p2), some (.inl l75_3)]) (st' := []) (w' := (SH, (u2 (u2 (u2 dt172 79 12 0) 79 19 (dt172 79 17)) 79 21 (-1)))) rfl rfl (s_pf rfl rfl rfl rfl ⟨by omega, by omega⟩) ?_
                refine go_if (k := 2) (p1 := 158) (p2 := 156) (L' := [some (.inr (.inr (some 79))), some (.inl p1), some (.inl p2), some (.inl l75_3)]) (st' := []) (w' := (SH, (u2 (u2 (u2 dt172 79 12 0) 79 19 (dt172 79 17)) 79 21 (-1)))) (fun _ => rfl) (z_ne (a := l75_3) ⟨by omega, by omega⟩) (fun c290 => ?_) (fun c290 => ?_)
                · skip
                  refine go_to (k := 2) (pc' := 160) (L' := [some (.inr (.inr (some 79))), some (.inl p1), some (.inl p2), some (.inl l75_3)]) (st' := [.inl p2, .inr (.inr (some 79))]) (w' := (SH, (u2 (u2 (u2 dt172 79 12 0) 79 19 (dt172 79 17)) 79 21 (-1)))) (fun _ => rfl) ?_
                  refine go_call (Q' := _) rfl rfl rfl rfl rfl (sp_X6_keeps_k1 L xs sio (d + 37) (u2 (u2 (u2 dt172 79 12 0) 79 19 (dt172 79 17)) 79 21 (-1)) hI271 hM_dt172  p2 ⟨by omega, by omega⟩ (by first | trivial | omega | exact hI4 (by omega) (by omega) | exact hI5 (by omega) (by omega)) (by first | trivial | omega | exact hI4 (by omega) (by omega) | exact hI5 (by omega) (by omega)) (by first | trivial | omega | exact hI4 (by omega) (by omega) | exact hI5 (by omega) (by omega)) (by first | trivial | omega | exact hI4 (by omega) (by omega) | exact hI5 (by omega) (by omega))) ?_
                  rintro _ _ ⟨dt292, rfl, hI293, hF294, h291⟩
                  refine ⟨rfl, ?_⟩
                  have hF295 : Fr [79, 80, 82, 83, 84] dt dt292 := Fr_tr hF272 hF294 (by decide)
                  have w296 : dt292 79 2 = (u2 (u2 (u2 dt172 79 12 0) 79 19 (dt172 79 17)) 79 21 (-1)) 79 2 := hF294 79 (by decide) 2
                  have w297 : dt292 79 9 = (u2 (u2 (u2 dt172 79 12 0) 79 19 (dt172 79 17)) 79 21 (-1)) 79 9 := hF294 79 (by decide) 9
                  have w298 : dt292 79 10 = (u2 (u2 (u2 dt172 79 12 0) 79 19 (dt172 79 17)) 79 21 (-1)) 79 10 := hF294 79 (by decide) 10
                  have w299 : dt292 79 11 = (u2 (u2 (u2 dt172 79 12 0) 79 19 (dt172 79 17)) 79 21 (-1)) 79 11 := hF294 79 (by decide) 11
                  have w300 : dt292 79 12 = (u2 (u2 (u2 dt172 79 12 0) 79 19 (dt172 79 17)) 79 21 (-1)) 79 12 := hF294 79 (by decide) 12
                  have w301 : dt292 79 13 = (u2 (u2 (u2 dt172 79 12 0) 79 19 (dt172 79 17)) 79 21 (-1)) 79 13 := hF294 79 (by decide) 13
                  have w302 : dt292 79 14 = (u2 (u2 (u2 dt172 79 12 0) 79 19 (dt172 79 17)) 79 21 (-1)) 79 14 := hF294 79 (by decide) 14
                  have w303 : dt292 79 15 = (u2 (u2 (u2 dt172 79 12 0) 79 19 (dt172 79 17)) 79 21 (-1)) 79 15 := hF294 79 (by decide) 15
                  have w304 : dt292 79 16 = (u2 (u2 (u2 dt172 79 12 0) 79 19 (dt172 79 17)) 79 21 (-1)) 79 16 := hF294 79 (by decide) 16
                  have w305 : dt292 79 20 = (u2 (u2 (u2 dt172 79 12 0) 79 19 (dt172 79 17)) 79 21 (-1)) 79 20 := hF294 79 (by decide) 20
                  have E84306 : dt292 84 = dt172 84 := (funext (hF294 84 (by decide))).trans E84289
                  rcases h291 with ⟨rfl, h291⟩
                  have hM307 : MW (dt292 80) := h291.1
                  obtain ⟨h291_0, h291_1, h291_2, h291_3, h291_4, h291_5, h291_6⟩ := h291
                  have r308 : 0 ≤ dt292 79 10 ∧ dt292 79 10 ≤ 24 := InvC_get hI293 79 10 rfl rfl
                  refine go_ret (k := 3) (r := some (.inl (dt292 79 10))) (w1 := (SH, dt292)) (fun _ => rfl) ?_
                  exact ⟨dt292, rfl, hI293, hF295, ⟨_, rfl, ⟨by omega, by omega⟩, ⟨by first | trivial | omega, by first | trivial | omega, by first | assumption | exact hM, by first | trivial | omega, by first | trivial | omega, by first | trivial | omega, by first | trivial | omega, by first | trivial | omega, by first | trivial | omega⟩⟩⟩
                · exfalso; omega
            · skip
              have r309 : (-2147483648) ≤ dt172 79 14 ∧ dt172 79 14 ≤ 2147483647 := InvC_get hI173 79 14 rfl rfl
              refine go_if (k := 3) (p1 := 123) (p2 := 86) (L' := [some (.inr (.inr (some 79))), some (.inl p1), some (.inl p2), some (.inl l75_3)]) (st' := []) (w' := (SH, dt172)) (fun _ => rfl) (z_eq (a := dt172 79 14) ⟨by omega, by omega⟩) (fun c310 => ?_) (fun c310 => ?_)
              · skip
                refine go_to (k := 2) (pc' := 125) (L' := [some (.inr (.inr (some 79))), some (.inl p1), some (.inl p2), some (.inl l75_3)]) (st' := [.inl 0, .inr (.inr (some 79))]) (w' := (SH, dt172)) (fun _ => rfl) ?_
                have hI311 : InvC (u2 dt172 79 12 0) := InvC_u2 hI173 (lo := 0) (hi := 500) rfl rfl rfl (by omega) (by omega)
                have hF312 : Fr [79, 80, 82, 83, 84] dt (u2 dt172 79 12 0) := Fr_u2 hF174 (by decide)
                have w313 : (u2 dt172 79 12 0) 79 2 = dt172 79 2 := rfl
                have w314 : (u2 dt172 79 12 0) 79 9 = dt172 79 9 := rfl
                have w315 : (u2 dt172 79 12 0) 79 10 = dt172 79 10 := rfl
                have w316 : (u2 dt172 79 12 0) 79 11 = dt172 79 11 := rfl
                have w317 : (u2 dt172 79 12 0) 79 12 = 0 := rfl
                have w318 : (u2 dt172 79 12 0) 79 13 = dt172 79 13 := rfl
                have w319 : (u2 dt172 79 12 0) 79 14 = dt172 79 14 := rfl
                have w320 : (u2 dt172 79 12 0) 79 15 = dt172 79 15 := rfl
                have w321 : (u2 dt172 79 12 0) 79 16 = dt172 79 16 := rfl
                have w322 : (u2 dt172 79 12 0) 79 20 = dt172 79 20 := rfl
                have w323 : (u2 dt172 79 12 0) 80 0 = dt172 80 0 := rfl
                have w324 : (u2 dt172 79 12 0) 80 1 = dt172 80 1 := rfl
                have w325 : (u2 dt172 79 12 0) 80 2 = dt172 80 2 := rfl
                have w326 : (u2 dt172 79 12 0) 80 3 = dt172 80 3 := rfl
                have w327 : (u2 dt172 79 12 0) 80 4 = dt172 80 4 := rfl
                have w328 : (u2 dt172 79 12 0) 80 5 = dt172 80 5 := rfl
                have E84329 : (u2 dt172 79 12 0) 84 = dt172 84 := funext fun _ => u2_ne (by omega)
                refine go_smp (L' := [some (.inr (.inr (some 79))), some (.inl p1), some (.inl p2), some (.inl l75_3)]) (st' := []) (w' := (SH, (u2 dt172 79 12 0))) rfl rfl (s_pf rfl rfl rfl rfl ⟨by omega, by omega⟩) ?_
                have r330 : (-2147483648) ≤ dt172 79 17 ∧ dt172 79 17 ≤ 2147483647 := InvC_get hI173 79 17 rfl rfl
                refine go_to (k := 3) (pc' := 133) (L' := [some (.inr (.inr (some 79))), some (.inl p1), some (.inl p2), some (.inl l75_3)]) (st' := [.inl (dt172 79 17), .inr (.inr (some 79))]) (w' := (SH, (u2 dt172 79 12 0))) (fun _ => rfl) ?_
                have hI331 : InvC (u2 (u2 dt172 79 12 0) 79 19 (dt172 79 17)) := InvC_u2 hI311 (lo := -2147483648) (hi := 2147483647) rfl rfl rfl (by omega) (by omega)
                have hF332 : Fr [79, 80, 82, 83, 84] dt (u2 (u2 dt172 79 12 0) 79 19 (dt172 79 17)) := Fr_u2 hF312 (by decide)
                have w333 : (u2 (u2 dt172 79 12 0) 79 19 (dt172 79 17)) 79 2 = (u2 dt172 79 12 0) 79 2 := rfl
                have w334 : (u2 (u2 dt172 79 12 0) 79 19 (dt172 79 17)) 79 9 = (u2 dt172 79 12 0) 79 9 := rfl
                have w335 : (u2 (u2 dt172 79 12 0) 79 19 (dt172 79 17)) 79 10 = (u2 dt172 79 12 0) 79 10 := rfl
                have w336 : (u2 (u2 dt172 79 12 0) 79 19 (dt172 79 17)) 79 11 = (u2 dt172 79 12 0) 79 11 := rfl
                have w337 : (u2 (u2 dt172 79 12 0) 79 19 (dt172 79 17)) 79 12 = (u2 dt172 79 12 0) 79 12 := rfl
                have w338 : (u2 (u2 dt172 79 12 0) 79 19 (dt172 79 17)) 79 13 = (u2 dt172 79 12 0) 79 13 := rfl
                have w339 : (u2 (u2 dt172 79 12 0) 79 19 (dt172 79 17)) 79 14 = (u2 dt172 79 12 0) 79 14 := rfl
                have w340 : (u2 (u2 dt172 79 12 0) 79 19 (dt172 79 17)) 79 15 = (u2 dt172 79 12 0) 79 15 := rfl
                have w341 : (u2 (u2 dt172 79 12 0) 79 19 (dt172 79 17)) 79 16 = (u2 dt172 79 12 0) 79 16 := rfl
                have w342 : (u2 (u2 dt172 79 12 0) 79 19 (dt172 79 17)) 79 20 = (u2 dt172 79 12 0) 79 20 := rfl
                have w343 : (u2 (u2 dt172 79 12 0) 79 19 (dt172 79 17)) 80 0 = (u2 dt172 79 12 0) 80 0 := rfl
                have w344 : (u2 (u2 dt172 79 12 0) 79 19 (dt172 79 17)) 80 1 = (u2 dt172 79 12 0) 80 1 := rfl
                have w345 : (u2 (u2 dt172 79 12 0) 79 19 (dt172 79 17)) 80 2 = (u2 dt172 79 12 0) 80 2 := rfl
                have w346 : (u2 (u2 dt172 79 12 0) 79 19 (dt172 79 17)) 80 3 = (u2 dt172 79 12 0) 80 3 := rfl
                have w347 : (u2 (u2 dt172 79 12 0) 79 19 (dt172 79 17)) 80 4 = (u2 dt172 79 12 0) 80 4 := rfl
                have w348 : (u2 (u2 dt172 79 12 0) 79 19 (dt172 79 17)) 80 5 = (u2 dt172 79 12 0) 80 5 := rfl
                have E84349 : (u2 (u2 dt172 79 12 0) 79 19 (dt172 79 17)) 84 = dt172 84 := (funext fun _ => u2_ne (by omega)).trans E84329
                refine go_smp (L' := [some (.inr (.inr (some 79))), some (.inl p1), some (.inl p2), some (.inl l75_3)]) (st' := []) (w' := (SH, (u2 (u2 dt172 79 12 0) 79 19 (dt172 79 17)))) rfl rfl (s_pf rfl rfl rfl rfl ⟨by omega, by omega⟩) ?_
                refine go_if (k := 3) (p1 := 145) (p2 := 141) (L' := [some (.inr (.inr (some 79))), some (.inl p1), some (.inl p2), some (.inl l75_3)]) (st' := [.inr (.inr (some 79))]) (w' := (SH, (u2 (u2 dt172 79 12 0) 79 19 (dt172 79 17)))) (fun _ => rfl) (z_eq (a := l75_3) ⟨by omega, by omega⟩) (fun c350 => ?_) (fun c350 => ?_)
                · exfalso; omega
                · skip
                  refine go_to (k := 2) (pc' := 149) (L' := [some (.inr (.inr (some 79))), some (.inl p1), some (.inl p2), some (.inl l75_3)]) (st' := [.inl (-1), .inr (.inr (some 79))]) (w' := (SH, (u2 (u2 dt172 79 12 0) 79 19 (dt172 79 17)))) (fun _ => rfl) ?_
                  have hI351 : InvC (u2 (u2 (u2 dt172 79 12 0) 79 19 (dt172 79 17)) 79 21 (-1)) := InvC_u2 hI331 (lo := -2147483648) (hi := 2147483647) rfl rfl rfl (by omega) (by omega)
                  have hF352 : Fr [79, 80, 82, 83, 84] dt (u2 (u2 (u2 dt172 79 12 0) 79 19 (dt172 79 17)) 79 21 (-1)) := Fr_u2 hF332 (by decide)
                  have w353 : (u2 (u2 (u2 dt172 79 12 0) 79 19 (dt172 79 17)) 79 21 (-1)) 79 2 = (u2 (u2 dt172 79 12 0) 79 19 (dt172 79 17)) 79 2 := rfl
                  have w354 : (u2 (u2 (u2 dt172 79 12 0) 79 19 (dt172 79 17)) 79 21 (-1)) 79 9 = (u2 (u2 dt172 79 12 0) 79 19 (dt172 79 17)) 79 9 := rfl
                  have w355 : (u2 (u2 (u2 dt172 79 12 0) 79 19 (dt172 79 17)) 79 21 (-1)) 79 10 = (u2 (u2 dt172 79 12 0) 79 19 (dt172 79 17)) 79 10 := rfl
                  have w356 : (u2 (u2 (u2 dt172 79 12 0) 79 19 (dt172 79 17)) 79 21 (-1)) 79 11 = (u2 (u2 dt172 79 12 0) 79 19 (dt172 79 17)) 79 11 := rfl
                  have w357 : (u2 (u2 (u2 dt172 79 12 0) 79 19 (dt172 79 17)) 79 21 (-1)) 79 12 = (u2 (u2 dt172 79 12 0) 79 19 (dt172 79 17)) 79 12 := rfl
                  have w358 : (u2 (u2 (u2 dt172 79 12 0) 79 19 (dt172 79 17)) 79 21 (-1)) 79 13 = (u2 (u2 dt172 79 12 0) 79 19 (dt172 79 17)) 79 13 := rfl
                  have w359 : (u2 (u2 (u2 dt172 79 12 0) 79 19 (dt172 79 17)) 79 21 (-1)) 79 14 = (u2 (u2 dt172 79 12 0) 79 19 (dt172 79 17)) 79 14 := rfl
                  have w360 : (u2 (u2 (u2 dt172 79 12 0) 79 19 (dt172 79 17)) 79 21 (-1)) 79 15 = (u2 (u2 dt172 79 12 0) 79 19 (dt172 79 17)) 79 15 := rfl
                  have w361 : (u2 (u2 (u2 dt172 79 12 0) 79 19 (dt172 79 17)) 79 21 (-1)) 79 16 = (u2 (u2 dt172 79 12 0) 79 19 (dt172 79 17)) 79 16 := rfl
                  have w362 : (u2 (u2 (u2 dt172 79 12 0) 79 19 (dt172 79 17)) 79 21 (-1)) 79 20 = (u2 (u2 dt172 79 12 0) 79 19 (dt172 79 17)) 79 20 := rfl
                  have w363 : (u2 (u2 (u2 dt172 79 12 0) 79 19 (dt172 79 17)) 79 21 (-1)) 80 0 = (u2 (u2 dt172 79 12 0) 79 19 (dt172 79 17)) 80 0 := rfl
                  have w364 : (u2 (u2 (u2 dt172 79 12 0) 79 19 (dt172 79 17)) 79 21 (-1)) 80 1 = (u2 (u2 dt172 79 12 0) 79 19 (dt172 79 17)) 80 1 := rfl
                  have w365 : (u2 (u2 (u2 dt172 79 12 0) 79 19 (dt172 79 17)) 79 21 (-1)) 80 2 = (u2 (u2 dt172 79 12 0) 79 19 (dt172 79 17)) 80 2 := rfl
                  have w366 : (u2 (u2 (u2 dt172 79 12 0) 79 19 (dt172 79 17)) 79 21 (-1)) 80 3 = (u2 (u2 dt172 79 12 0) 79 19 (dt172 79 17)) 80 3 := rfl
                  have w367 : (u2 (u2 (u2 dt172 79 12 0) 79 19 (dt172 79 17)) 79 21 (-1)) 80 4 = (u2 (u2 dt172 79 12 0) 79 19 (dt172 79 17)) 80 4 := rfl
                  have w368 : (u2 (u2 (u2 dt172 79 12 0) 79 19 (dt172 79 17)) 79 21 (-1)) 80 5 = (u2 (u2 dt172 79 12 0) 79 19 (dt172 79 17)) 80 5 := rfl
                  have E84369 : (u2 (u2 (u2 dt172 79 12 0) 79 19 (dt172 79 17)) 79 21 (-1)) 84 = dt172 84 := (funext fun _ => u2_ne (by omega)).trans E84349
                  refine go_smp (L' := [some (.inr (.inr (some 79))), some (.inl p1), some (.inl p2), some (.inl l75_3)]) (st' := []) (w' := (SH, (u2 (u2 (u2 dt172 79 12 0) 79 19 (dt172 79 17)) 79 21 (-1)))) rfl rfl (s_pf rfl rfl rfl rfl ⟨by omega, by omega⟩) ?_
                  refine go_if (k := 2) (p1 := 158) (p2 := 156) (L' := [some (.inr (.inr (some 79))), some (.inl p1), some (.inl p2), some (.inl l75_3)]) (st' := []) (w' := (SH, (u2 (u2 (u2 dt172 79 12 0) 79 19 (dt172 79 17)) 79 21 (-1)))) (fun _ => rfl) (z_ne (a := l75_3) ⟨by omega, by omega⟩) (fun c370 => ?_) (fun c370 => ?_)
                  · skip
                    refine go_to (k := 2) (pc' := 160) (L' := [some (.inr (.inr (some 79))), some (.inl p1), some (.inl p2), some (.inl l75_3)]) (st' := [.inl p2, .inr (.inr (some 79))]) (w' := (SH, (u2 (u2 (u2 dt172 79 12 0) 79 19 (dt172 79 17)) 79 21 (-1)))) (fun _ => rfl) ?_
                    refine go_call (Q' := _) rfl rfl rfl rfl rfl (sp_X6_keeps_k1 L xs sio (d + 37) (u2 (u2 (u2 dt172 79 12 0) 79 19 (dt172 79 17)) 79 21 (-1)) hI351 hM_dt172  p2 ⟨by omega, by omega⟩ (by first | trivial | omega | exact hI4 (by omega) (by omega) | exact hI5 (by omega) (by omega)) (by first | trivial | omega | exact hI4 (by omega) (by omega) | exact hI5 (by omega) (by omega)) (by first | trivial | omega | exact hI4 (by omega) (by omega) | exact hI5 (by omega) (by omega)) (by first | trivial | omega | exact hI4 (by omega) (by omega) | exact hI5 (by omega) (by omega))) ?_
                    rintro _ _ ⟨dt372, rfl, hI373, hF374, h371⟩
                    refine ⟨rfl, ?_⟩
                    have hF375 : Fr [79, 80, 82, 83, 84] dt dt372 := Fr_tr hF352 hF374 (by decide)
                    have w376 : dt372 79 2 = (u2 (u2 (u2 dt172 79 12 0) 79 19 (dt172 79 17)) 79 21 (-1)) 79 2 := hF374 79 (by decide) 2
                    have w377 : dt372 79 9 = (u2 (u2 (u2 dt172 79 12 0) 79 19 (dt172 79 17)) 79 21 (-1)) 79 9 := hF374 79 (by decide) 9
                    have w378 : dt372 79 10 = (u2 (u2 (u2 dt172 79 12 0) 79 19 (dt172 79 17)) 79 21 (-1)) 79 10 := hF374 79 (by decide) 10
                    have w379 : dt372 79 11 = (u2 (u2 (u2 dt172 79 12 0) 79 19 (dt172 79 17)) 79 21 (-1)) 79 11 := hF374 79 (by decide) 11
                    have w380 : dt372 79 12 = (u2 (u2 (u2 dt172 79 12 0) 79 19 (dt172 79 17)) 79 21 (-1)) 79 12 := hF374 79 (by decide) 12
                    have w381 : dt372 79 13 = (u2 (u2 (u2 dt172 79 12 0) 79 19 (dt172 79 17)) 79 21 (-1)) 79 13 := hF374 79 (by decide) 13
                    have w382 : dt372 79 14 = (u2 (u2 (u2 dt172 79 12 0) 79 19 (dt172 79 17)) 79 21 (-1)) 79 14 := hF374 79 (by decide) 14
                    have w383 : dt372 79 15 = (u2 (u2 (u2 dt172 79 12 0) 79 19 (dt172 79 17)) 79 21 (-1)) 79 15 := hF374 79 (by decide) 15
                    have w384 : dt372 79 16 = (u2 (u2 (u2 dt172 79 12 0) 79 19 (dt172 79 17)) 79 21 (-1)) 79 16 := hF374 79 (by decide) 16
                    have w385 : dt372 79 20 = (u2 (u2 (u2 dt172 79 12 0) 79 19 (dt172 79 17)) 79 21 (-1)) 79 20 := hF374 79 (by decide) 20
                    have E84386 : dt372 84 = dt172 84 := (funext (hF374 84 (by decide))).trans E84369
                    rcases h371 with ⟨rfl, h371⟩
                    have hM387 : MW (dt372 80) := h371.1
                    obtain ⟨h371_0, h371_1, h371_2, h371_3, h371_4, h371_5, h371_6⟩ := h371
                    have r388 : 0 ≤ dt372 79 10 ∧ dt372 79 10 ≤ 24 := InvC_get hI373 79 10 rfl rfl
                    refine go_ret (k := 3) (r := some (.inl (dt372 79 10))) (w1 := (SH, dt372)) (fun _ => rfl) ?_
                    exact ⟨dt372, rfl, hI373, hF375, ⟨_, rfl, ⟨by omega, by omega⟩, ⟨by first | trivial | omega, by first | trivial | omega, by first | assumption | exact hM, by first | trivial | omega, by first | trivial | omega, by first | trivial | omega, by first | trivial | omega, by first | trivial | omega, by first | trivial | omega⟩⟩⟩
                  · exfalso; omega
              · skip
                refine go_if (k := 2) (p1 := 97) (p2 := 90) (L' := [some (.inr (.inr (some 79))), some (.inl p1), some (.inl p2), some (.inl l75_3)]) (st' := []) (w' := (SH, dt172)) (fun _ => rfl) (z_ne (a := p1) ⟨by omega, by omega⟩) (fun c389 => ?_) (fun c389 => ?_)
                · skip
                  refine go_to (k := 1) (pc' := 98) (L' := [some (.inr (.inr (some 79))), some (.inl p1), some (.inl p2), some (.inl l75_3)]) (st' := [.inr (.inr (some 79))]) (w' := (SH, dt172)) (fun _ => rfl) ?_
                  refine go_call (Q' := _) rfl rfl rfl rfl rfl (sp_X6_aLine L xs sio (d + 0) dt172 hI173   (by first | trivial | omega | exact hI4 (by omega) (by omega) | exact hI5 (by omega) (by omega)) (by first | trivial | omega | exact hI4 (by omega) (by omega) | exact hI5 (by omega) (by omega)) (by first | trivial | omega | exact hI4 (by omega) (by omega) | exact hI5 (by omega) (by omega))) ?_
                  rintro _ _ ⟨dt391, rfl, hI392, hF393, h390⟩
                  refine ⟨rfl, ?_⟩
                  have hF394 : Fr [79, 80, 82, 83, 84] dt dt391 := Fr_tr hF174 hF393 (by decide)
                  have hM395 : MW (dt391 80) := MW_fr hM_dt172 hF393 (by decide)
                  have w396 : dt391 80 0 = dt172 80 0 := hF393 80 (by decide) 0
                  have w397 : dt391 80 1 = dt172 80 1 := hF393 80 (by decide) 1
                  have w398 : dt391 80 2 = dt172 80 2 := hF393 80 (by decide) 2
                  have w399 : dt391 80 3 = dt172 80 3 := hF393 80 (by decide) 3
                  have w400 : dt391 80 4 = dt172 80 4 := hF393 80 (by decide) 4
                  have w401 : dt391 80 5 = dt172 80 5 := hF393 80 (by decide) 5
                  rcases h390 with ⟨rfl, h390⟩ | ⟨rfl, h390⟩
                  · skip
                    obtain ⟨h390_0, h390_1, h390_2⟩ := h390
                    have r402 : 0 ≤ dt391 79 10 ∧ dt391 79 10 ≤ 24 := InvC_get hI392 79 10 rfl rfl
                    refine go_to (k := 8) (pc' := 117) (L' := [some (.inr (.inr (some 79))), some (.inl p1), some (.inl p2), some (.inl 0)]) (st' := [.inl ((dt391 79 10) + 0), .inr (.inr (some 79))]) (w' := (SH, dt391)) (fun _ => rfl) ?_
                    have hI403 : InvC (u2 dt391 79 10 ((dt391 79 10) + 0)) := InvC_u2 hI392 (lo := 0) (hi := 24) rfl rfl rfl (by omega) (by omega)
                    have hF404 : Fr [79, 80, 82, 83, 84] dt (u2 dt391 79 10 ((dt391 79 10) + 0)) := Fr_u2 hF394 (by decide)
                    have w405 : (u2 dt391 79 10 ((dt391 79 10) + 0)) 79 2 = dt391 79 2 := rfl
                    have w406 : (u2 dt391 79 10 ((dt391 79 10) + 0)) 79 9 = dt391 79 9 := rfl
                    have w407 : (u2 dt391 79 10 ((dt391 79 10) + 0)) 79 10 = (dt391 79 10) + 0 := rfl
                    have w408 : (u2 dt391 79 10 ((dt391 79 10) + 0)) 79 11 = dt391 79 11 := rfl
                    have w409 : (u2 dt391 79 10 ((dt391 79 10) + 0)) 79 12 = dt391 79 12 := rfl
                    have w410 : (u2 dt391 79 10 ((dt391 79 10) + 0)) 79 13 = dt391 79 13 := rfl
                    have w411 : (u2 dt391 79 10 ((dt391 79 10) + 0)) 79 14 = dt391 79 14 := rfl
                    have w412 : (u2 dt391 79 10 ((dt391 79 10) + 0)) 79 15 = dt391 79 15 := rfl
                    have w413 : (u2 dt391 79 10 ((dt391 79 10) + 0)) 79 16 = dt391 79 16 := rfl
                    have w414 : (u2 dt391 79 10 ((dt391 79 10) + 0)) 79 20 = dt391 79 20 := rfl
                    have w415 : (u2 dt391 79 10 ((dt391 79 10) + 0)) 80 0 = dt391 80 0 := rfl
                    have w416 : (u2 dt391 79 10 ((dt391 79 10) + 0)) 80 1 = dt391 80 1 := rfl
                    have w417 : (u2 dt391 79 10 ((dt391 79 10) + 0)) 80 2 = dt391 80 2 := rfl
                    have w418 : (u2 dt391 79 10 ((dt391 79 10) + 0)) 80 3 = dt391 80 3 := rfl
                    have w419 : (u2 dt391 79 10 ((dt391 79 10) + 0)) 80 4 = dt391 80 4 := rfl
                    have w420 : (u2 dt391 79 10 ((dt391 79 10) + 0)) 80 5 = dt391 80 5 := rfl
                    have E84421 : (u2 dt391 79 10 ((dt391 79 10) + 0)) 84 = dt391 84 := funext fun _ => u2_ne (by omega)
                    refine go_smp (L' := [some (.inr (.inr (some 79))), some (.inl p1), some (.inl p2), some (.inl 0)]) (st' := []) (w' := (SH, (u2 dt391 79 10 ((dt391 79 10) + 0)))) rfl rfl (s_pf rfl rfl rfl rfl ⟨by omega, by omega⟩) ?_
                    refine go_to (k := 1) (pc' := 75) (L' := [some (.inr (.inr (some 79))), some (.inl p1), some (.inl p2), some (.inl 0)]) (st' := []) (w' := (SH, (u2 dt391 79 10 ((dt391 79 10) + 0)))) (fun _ => rfl) ?_
                    exact GO.le (ih_loop190 0 (u2 dt391 79 10 ((dt391 79 10) + 0)) hI403 hF404 hM395 (by omega) (by omega) (by omega) (by omega) (by omega) (by intro _ hz; first | omega | exact ARW_0 (by omega) | exact ARW_s (hI4 (by omega) hz) (by omega) (by assumption) (by assumption) (by omega)) (by intro _ hz; first | omega | exact LRW_0 (by omega) | exact LRW_s (hI5 (by omega) hz) (by omega) (by assumption) (by assumption) (by assumption) (by omega) (by omega)) (by omega) (by omega) (by omega) (by omega) (by omega) (by omega) (by omega) (by omega) (by omega)) ⟨.inl rfl, .inl rfl, .inl rfl, .inl rfl, trivial⟩
                  · skip
                    obtain ⟨h390_0, h390_1, h390_2, h390_3, h390_4, h390_5, h390_6, h390_7, h390_8, h390_9, h390_10, h390_11, h390_12⟩ := h390
                    have r422 : 0 ≤ dt391 79 10 ∧ dt391 79 10 ≤ 24 := InvC_get hI392 79 10 rfl rfl
                    refine go_to (k := 9) (pc' := 117) (L' := [some (.inr (.inr (some 79))), some (.inl p1), some (.inl p2), some (.inl 1)]) (st' := [.inl ((dt391 79 10) + 1), .inr (.inr (some 79))]) (w' := (SH, dt391)) (fun _ => rfl) ?_
                    have hI423 : InvC (u2 dt391 79 10 ((dt391 79 10) + 1)) := InvC_u2 hI392 (lo := 0) (hi := 24) rfl rfl rfl (by omega) (by omega)
                    have hF424 : Fr [79, 80, 82, 83, 84] dt (u2 dt391 79 10 ((dt391 79 10) + 1)) := Fr_u2 hF394 (by decide)
                    have w425 : (u2 dt391 79 10 ((dt391 79 10) + 1)) 79 2 = dt391 79 2 := rfl
                    have w426 : (u2 dt391 79 10 ((dt391 79 10) + 1)) 79 9 = dt391 79 9 := rfl
                    have w427 : (u2 dt391 79 10 ((dt391 79 10) + 1)) 79 10 = (dt391 79 10) + 1 := rfl
                    have w428 : (u2 dt391 79 10 ((dt391 79 10) + 1)) 79 11 = dt391 79 11 := rfl
                    have w429 : (u2 dt391 79 10 ((dt391 79 10) + 1)) 79 12 = dt391 79 12 := rfl
                    have w430 : (u2 dt391 79 10 ((dt391 79 10) + 1)) 79 13 = dt391 79 13 := rfl
                    have w431 : (u2 dt391 79 10 ((dt391 79 10) + 1)) 79 14 = dt391 79 14 := rfl
                    have w432 : (u2 dt391 79 10 ((dt391 79 10) + 1)) 79 15 = dt391 79 15 := rfl
                    have w433 : (u2 dt391 79 10 ((dt391 79 10) + 1)) 79 16 = dt391 79 16 := rfl
                    have w434 : (u2 dt391 79 10 ((dt391 79 10) + 1)) 79 20 = dt391 79 20 := rfl
                    have w435 : (u2 dt391 79 10 ((dt391 79 10) + 1)) 80 0 = dt391 80 0 := rfl
                    have w436 : (u2 dt391 79 10 ((dt391 79 10) + 1)) 80 1 = dt391 80 1 := rfl
                    have w437 : (u2 dt391 79 10 ((dt391 79 10) + 1)) 80 2 = dt391 80 2 := rfl
                    have w438 : (u2 dt391 79 10 ((dt391 79 10) + 1)) 80 3 = dt391 80 3 := rfl
                    have w439 : (u2 dt391 79 10 ((dt391 79 10) + 1)) 80 4 = dt391 80 4 := rfl
                    have w440 : (u2 dt391 79 10 ((dt391 79 10) + 1)) 80 5 = dt391 80 5 := rfl
                    have E84441 : (u2 dt391 79 10 ((dt391 79 10) + 1)) 84 = dt391 84 := funext fun _ => u2_ne (by omega)
                    refine go_smp (L' := [some (.inr (.inr (some 79))), some (.inl p1), some (.inl p2), some (.inl 1)]) (st' := []) (w' := (SH, (u2 dt391 79 10 ((dt391 79 10) + 1)))) rfl rfl (s_pf rfl rfl rfl rfl ⟨by omega, by omega⟩) ?_
                    refine go_to (k := 1) (pc' := 75) (L' := [some (.inr (.inr (some 79))), some (.inl p1), some (.inl p2), some (.inl 1)]) (st' := []) (w' := (SH, (u2 dt391 79 10 ((dt391 79 10) + 1)))) (fun _ => rfl) ?_
                    exact GO.le (ih_loop190 1 (u2 dt391 79 10 ((dt391 79 10) + 1)) hI423 hF424 hM395 (by omega) (by omega) (by omega) (by omega) (by omega) (by intro _ hz; first | omega | exact ARW_0 (by omega) | exact ARW_s (hI4 (by omega) hz) (by omega) (by assumption) (by assumption) (by omega)) (by intro _ hz; first | omega | exact LRW_0 (by omega) | exact LRW_s (hI5 (by omega) hz) (by omega) (by assumption) (by assumption) (by assumption) (by omega) (by omega)) (by omega) (by omega) (by omega) (by omega) (by omega) (by omega) (by omega) (by omega) (by omega)) ⟨.inl rfl, .inl rfl, .inl rfl, .inl rfl, trivial⟩
                · exfalso; omega
        exact GO.le (loop190 _ 1 dt103 hI104 hF106 hM107 (by omega) (by omega) (by omega) (by omega) (by omega) (by intro _ hz; first | omega | exact ARW_0 (by omega) | exact ARW_s (hI4 (by omega) hz) (by omega) (by assumption) (by assumption) (by omega)) (by intro _ hz; first | omega | exact LRW_0 (by omega) | exact LRW_s (hI5 (by omega) hz) (by omega) (by assumption) (by assumption) (by assumption) (by omega) (by omega)) (by omega) (by omega) (by omega) (by omega) (by omega) (by omega) (by omega) (by omega) (Nat.lt_succ_self _)) ⟨.inl rfl, .inl rfl, .inl rfl, .inl rfl, trivial⟩
      · skip
        refine go_to (k := 3) (pc' := 34) (L' := [some (.inr (.inr (some 79))), some (.inl p1), some (.inl p2), none]) (st' := [.inl 0, .inr (.inr (some 79))]) (w' := (SH, (u2 dt 79 17 0))) (fun _ => rfl) ?_
        have hI442 : InvC (u2 (u2 dt 79 17 0) 79 12 0) := InvC_u2 hI4 (lo := 0) (hi := 500) rfl rfl rfl (by omega) (by omega)
        have hF443 : Fr [79, 80, 82, 83, 84] dt (u2 (u2 dt 79 17 0) 79 12 0) := Fr_u2 hF5 (by decide)
        have w444 : (u2 (u2 dt 79 17 0) 79 12 0) 79 2 = (u2 dt 79 17 0) 79 2 := rfl
        have w445 : (u2 (u2 dt 79 17 0) 79 12 0) 79 9 = (u2 dt 79 17 0) 79 9 := rfl
        have w446 : (u2 (u2 dt 79 17 0) 79 12 0) 79 10 = (u2 dt 79 17 0) 79 10 := rfl
        have w447 : (u2 (u2 dt 79 17 0) 79 12 0) 79 11 = (u2 dt 79 17 0) 79 11 := rfl
        have w448 : (u2 (u2 dt 79 17 0) 79 12 0) 79 12 = 0 := rfl
        have w449 : (u2 (u2 dt 79 17 0) 79 12 0) 79 13 = (u2 dt 79 17 0) 79 13 := rfl
        have w450 : (u2 (u2 dt 79 17 0) 79 12 0) 79 14 = (u2 dt 79 17 0) 79 14 := rfl
        have w451 : (u2 (u2 dt 79 17 0) 79 12 0) 79 15 = (u2 dt 79 17 0) 79 15 := rfl
        have w452 : (u2 (u2 dt 79 17 0) 79 12 0) 79 16 = (u2 dt 79 17 0) 79 16 := rfl
        have w453 : (u2 (u2 dt 79 17 0) 79 12 0) 79 20 = (u2 dt 79 17 0) 79 20 := rfl
        have w454 : (u2 (u2 dt 79 17 0) 79 12 0) 80 0 = (u2 dt 79 17 0) 80 0 := rfl
        have w455 : (u2 (u2 dt 79 17 0) 79 12 0) 80 1 = (u2 dt 79 17 0) 80 1 := rfl
        have w456 : (u2 (u2 dt 79 17 0) 79 12 0) 80 2 = (u2 dt 79 17 0) 80 2 := rfl
        have w457 : (u2 (u2 dt 79 17 0) 79 12 0) 80 3 = (u2 dt 79 17 0) 80 3 := rfl
        have w458 : (u2 (u2 dt 79 17 0) 79 12 0) 80 4 = (u2 dt 79 17 0) 80 4 := rfl
        have w459 : (u2 (u2 dt 79 17 0) 79 12 0) 80 5 = (u2 dt 79 17 0) 80 5 := rfl
        have E84460 : (u2 (u2 dt 79 17 0) 79 12 0) 84 = dt 84 := (funext fun _ => u2_ne (by omega)).trans E8422
        refine go_smp (L' := [some (.inr (.inr (some 79))), some (.inl p1), some (.inl p2), none]) (st' := []) (w' := (SH, (u2 (u2 dt 79 17 0) 79 12 0))) rfl rfl (s_pf rfl rfl rfl rfl ⟨by omega, by omega⟩) ?_
        refine go_to (k := 2) (pc' := 39) (L' := [some (.inr (.inr (some 79))), some (.inl p1), some (.inl p2), none]) (st' := [.inl 0, .inr (.inr (some 79))]) (w' := (SH, (u2 (u2 dt 79 17 0) 79 12 0))) (fun _ => rfl) ?_
        have hI461 : InvC (u2 (u2 (u2 dt 79 17 0) 79 12 0) 79 19 0) := InvC_u2 hI442 (lo := -2147483648) (hi := 2147483647) rfl rfl rfl (by omega) (by omega)
        have hF462 : Fr [79, 80, 82, 83, 84] dt (u2 (u2 (u2 dt 79 17 0) 79 12 0) 79 19 0) := Fr_u2 hF443 (by decide)
        have w463 : (u2 (u2 (u2 dt 79 17 0) 79 12 0) 79 19 0) 79 2 = (u2 (u2 dt 79 17 0) 79 12 0) 79 2 := rfl
        have w464 : (u2 (u2 (u2 dt 79 17 0) 79 12 0) 79 19 0) 79 9 = (u2 (u2 dt 79 17 0) 79 12 0) 79 9 := rfl
        have w465 : (u2 (u2 (u2 dt 79 17 0) 79 12 0) 79 19 0) 79 10 = (u2 (u2 dt 79 17 0) 79 12 0) 79 10 := rfl
        have w466 : (u2 (u2 (u2 dt 79 17 0) 79 12 0) 79 19 0) 79 11 = (u2 (u2 dt 79 17 0) 79 12 0) 79 11 := rfl
        have w467 : (u2 (u2 (u2 dt 79 17 0) 79 12 0) 79 19 0) 79 12 = (u2 (u2 dt 79 17 0) 79 12 0) 79 12 := rfl
        have w468 : (u2 (u2 (u2 dt 79 17 0) 79 12 0) 79 19 0) 79 13 = (u2 (u2 dt 79 17 0) 79 12 0) 79 13 := rfl
        have w469 : (u2 (u2 (u2 dt 79 17 0) 79 12 0) 79 19 0) 79 14 = (u2 (u2 dt 79 17 0) 79 12 0) 79 14 := rfl
        have w470 : (u2 (u2 (u2 dt 79 17 0) 79 12 0) 79 19 0) 79 15 = (u2 (u2 dt 79 17 0) 79 12 0) 79 15 := rfl
        have w471 : (u2 (u2 (u2 dt 79 17 0) 79 12 0) 79 19 0) 79 16 = (u2 (u2 dt 79 17 0) 79 12 0) 79 16 := rfl
        have w472 : (u2 (u2 (u2 dt 79 17 0) 79 12 0) 79 19 0) 79 20 = (u2 (u2 dt 79 17 0) 79 12 0) 79 20 := rfl
        have w473 : (u2 (u2 (u2 dt 79 17 0) 79 12 0) 79 19 0) 80 0 = (u2 (u2 dt 79 17 0) 79 12 0) 80 0 := rfl
        have w474 : (u2 (u2 (u2 dt 79 17 0) 79 12 0) 79 19 0) 80 1 = (u2 (u2 dt 79 17 0) 79 12 0) 80 1 := rfl
        have w475 : (u2 (u2 (u2 dt 79 17 0) 79 12 0) 79 19 0) 80 2 = (u2 (u2 dt 79 17 0) 79 12 0) 80 2 := rfl
        have w476 : (u2 (u2 (u2 dt 79 17 0) 79 12 0) 79 19 0) 80 3 = (u2 (u2 dt 79 17 0) 79 12 0) 80 3 := rfl
        have w477 : (u2 (u2 (u2 dt 79 17 0) 79 12 0) 79 19 0) 80 4 = (u2 (u2 dt 79 17 0) 79 12 0) 80 4 := rfl
        have w478 : (u2 (u2 (u2 dt 79 17 0) 79 12 0) 79 19 0) 80 5 = (u2 (u2 dt 79 17 0) 79 12 0) 80 5 := rfl
        have E84479 : (u2 (u2 (u2 dt 79 17 0) 79 12 0) 79 19 0) 84 = dt 84 := (funext fun _ => u2_ne (by omega)).trans E84460
        refine go_smp (L' := [some (.inr (.inr (some 79))), some (.inl p1), some (.inl p2), none]) (st' := []) (w' := (SH, (u2 (u2 (u2 dt 79 17 0) 79 12 0) 79 19 0))) rfl rfl (s_pf rfl rfl rfl rfl ⟨by omega, by omega⟩) ?_
        refine go_to (k := 2) (pc' := 44) (L' := [some (.inr (.inr (some 79))), some (.inl p1), some (.inl p2), none]) (st' := [.inl (-1), .inr (.inr (some 79))]) (w' := (SH, (u2 (u2 (u2 dt 79 17 0) 79 12 0) 79 19 0))) (fun _ => rfl) ?_
        have hI480 : InvC (u2 (u2 (u2 (u2 dt 79 17 0) 79 12 0) 79 19 0) 79 21 (-1)) := InvC_u2 hI461 (lo := -2147483648) (hi := 2147483647) rfl rfl rfl (by omega) (by omega)
        have hF481 : Fr [79, 80, 82, 83, 84] dt (u2 (u2 (u2 (u2 dt 79 17 0) 79 12 0) 79 19 0) 79 21 (-1)) := Fr_u2 hF462 (by decide)
        have w482 : (u2 (u2 (u2 (u2 dt 79 17 0) 79 12 0) 79 19 0) 79 21 (-1)) 79 2 = (u2 (u2 (u2 dt 79 17 0) 79 12 0) 79 19 0) 79 2 := rfl
        have w483 : (u2 (u2 (u2 (u2 dt 79 17 0) 79 12 0) 79 19 0) 79 21 (-1)) 79 9 = (u2 (u2 (u2 dt 79 17 0) 79 12 0) 79 19 0) 79 9 := rfl
        have w484 : (u2 (u2 (u2 (u2 dt 79 17 0) 79 12 0) 79 19 0) 79 21 (-1)) 79 10 = (u2 (u2 (u2 dt 79 17 0) 79 12 0) 79 19 0) 79 10 := rfl
        have w485 : (u2 (u2 (u2 (u2 dt 79 17 0) 79 12 0) 79 19 0) 79 21 (-1)) 79 11 = (u2 (u2 (u2 dt 79 17 0) 79 12 0) 79 19 0) 79 11 := rfl
        have w486 : (u2 (u2 (u2 (u2 dt 79 17 0) 79 12 0) 79 19 0) 79 21 (-1)) 79 12 = (u2 (u2 (u2 dt 79 17 0) 79 12 0) 79 19 0) 79 12 := rfl
        have w487 : (u2 (u2 (u2 (u2 dt 79 17 0) 79 12 0) 79 19 0) 79 21 (-1)) 79 13 = (u2 (u2 (u2 dt 79 17 0) 79 12 0) 79 19 0) 79 13 := rfl
        have w488 : (u2 (u2 (u2 (u2 dt 79 17 0) 79 12 0) 79 19 0) 79 21 (-1)) 79 14 = (u2 (u2 (u2 dt 79 17 0) 79 12 0) 79 19 0) 79 14 := rfl
        have w489 : (u2 (u2 (u2 (u2 dt 79 17 0) 79 12 0) 79 19 0) 79 21 (-1)) 79 15 = (u2 (u2 (u2 dt 79 17 0) 79 12 0) 79 19 0) 79 15 := rfl
        have w490 : (u2 (u2 (u2 (u2 dt 79 17 0) 79 12 0) 79 19 0) 79 21 (-1)) 79 16 = (u2 (u2 (u2 dt 79 17 0) 79 12 0) 79 19 0) 79 16 := rfl
        have w491 : (u2 (u2 (u2 (u2 dt 79 17 0) 79 12 0) 79 19 0) 79 21 (-1)) 79 20 = (u2 (u2 (u2 dt 79 17 0) 79 12 0) 79 19 0) 79 20 := rfl
        have w492 : (u2 (u2 (u2 (u2 dt 79 17 0) 79 12 0) 79 19 0) 79 21 (-1)) 80 0 = (u2 (u2 (u2 dt 79 17 0) 79 12 0) 79 19 0) 80 0 := rfl
        have w493 : (u2 (u2 (u2 (u2 dt 79 17 0) 79 12 0) 79 19 0) 79 21 (-1)) 80 1 = (u2 (u2 (u2 dt 79 17 0) 79 12 0) 79 19 0) 80 1 := rfl
        have w494 : (u2 (u2 (u2 (u2 dt 79 17 0) 79 12 0) 79 19 0) 79 21 (-1)) 80 2 = (u2 (u2 (u2 dt 79 17 0) 79 12 0) 79 19 0) 80 2 := rfl
        have w495 : (u2 (u2 (u2 (u2 dt 79 17 0) 79 12 0) 79 19 0) 79 21 (-1)) 80 3 = (u2 (u2 (u2 dt 79 17 0) 79 12 0) 79 19 0) 80 3 := rfl
        have w496 : (u2 (u2 (u2 (u2 dt 79 17 0) 79 12 0) 79 19 0) 79 21 (-1)) 80 4 = (u2 (u2 (u2 dt 79 17 0) 79 12 0) 79 19 0) 80 4 := rfl
        have w497 : (u2 (u2 (u2 (u2 dt 79 17 0) 79 12 0) 79 19 0) 79 21 (-1)) 80 5 = (u2 (u2 (u2 dt 79 17 0) 79 12 0) 79 19 0) 80 5 := rfl
        have E84498 : (u2 (u2 (u2 (u2 dt 79 17 0) 79 12 0) 79 19 0) 79 21 (-1)) 84 = dt 84 := (funext fun _ => u2_ne (by omega)).trans E84479
        refine go_smp (L' := [some (.inr (.inr (some 79))), some (.inl p1), some (.inl p2), none]) (st' := []) (w' := (SH, (u2 (u2 (u2 (u2 dt 79 17 0) 79 12 0) 79 19 0) 79 21 (-1)))) rfl rfl (s_pf rfl rfl rfl rfl ⟨by omega, by omega⟩) ?_
        refine go_ret (k := 2) (r := some (.inl (-1))) (w1 := (SH, (u2 (u2 (u2 (u2 dt 79 17 0) 79 12 0) 79 19 0) 79 21 (-1)))) (fun _ => rfl) ?_
        exact ⟨(u2 (u2 (u2 (u2 dt 79 17 0) 79 12 0) 79 19 0) 79 21 (-1)), rfl, hI480, hF481, ⟨_, rfl, ⟨by omega, by omega⟩, ⟨by first | trivial | omega, by first | trivial | omega, by first | assumption | exact hM, by first | trivial | omega, by first | trivial | omega, by first | trivial | omega, by first | trivial | omega, by first | trivial | omega, by first | trivial | omega⟩⟩⟩
    · skip
      refine go_to (k := 2) (pc' := 26) (L' := [some (.inr (.inr (some 79))), some (.inl p1), some (.inl p2), none]) (st' := [.inl 7, .inl 0, .inl p2]) (w' := (SH, (u2 dt 79 17 0))) (fun _ => rfl) ?_
      refine go_call (Q' := _) rfl rfl rfl rfl rfl (sp_X6_isIn L xs sio (d + 37) (u2 dt 79 17 0) hI4  p2 ⟨by omega, by omega⟩ 0 ⟨by omega, by omega⟩ 7 ⟨by omega, by omega⟩ ) ?_
      rintro _ _ ⟨rfl, h499⟩
      refine ⟨rfl, ?_⟩
      rcases h499 with ⟨rfl, h499⟩ | ⟨rfl, h499⟩
      · skip
        refine go_to (k := 3) (pc' := 51) (L' := [some (.inr (.inr (some 79))), some (.inl p1), some (.inl p2), none]) (st' := [.inl p1, .inr (.inr (some 79))]) (w' := (SH, (u2 dt 79 17 0))) (fun _ => rfl) ?_
        have hI500 : InvC (u2 (u2 dt 79 17 0) 79 9 p1) := InvC_u2 hI4 (lo := 0) (hi := 1) rfl rfl rfl (by omega) (by omega)
        have hF501 : Fr [79, 80, 82, 83, 84] dt (u2 (u2 dt 79 17 0) 79 9 p1) := Fr_u2 hF5 (by decide)
        have w502 : (u2 (u2 dt 79 17 0) 79 9 p1) 79 2 = (u2 dt 79 17 0) 79 2 := rfl
        have w503 : (u2 (u2 dt 79 17 0) 79 9 p1) 79 9 = p1 := rfl
        have w504 : (u2 (u2 dt 79 17 0) 79 9 p1) 79 10 = (u2 dt 79 17 0) 79 10 := rfl
        have w505 : (u2 (u2 dt 79 17 0) 79 9 p1) 79 11 = (u2 dt 79 17 0) 79 11 := rfl
        have w506 : (u2 (u2 dt 79 17 0) 79 9 p1) 79 12 = (u2 dt 79 17 0) 79 12 := rfl
        have w507 : (u2 (u2 dt 79 17 0) 79 9 p1) 79 13 = (u2 dt 79 17 0) 79 13 := rfl
        have w508 : (u2 (u2 dt 79 17 0) 79 9 p1) 79 14 = (u2 dt 79 17 0) 79 14 := rfl
        have w509 : (u2 (u2 dt 79 17 0) 79 9 p1) 79 15 = (u2 dt 79 17 0) 79 15 := rfl
        have w510 : (u2 (u2 dt 79 17 0) 79 9 p1) 79 16 = (u2 dt 79 17 0) 79 16 := rfl
        have w511 : (u2 (u2 dt 79 17 0) 79 9 p1) 79 20 = (u2 dt 79 17 0) 79 20 := rfl
        have w512 : (u2 (u2 dt 79 17 0) 79 9 p1) 80 0 = (u2 dt 79 17 0) 80 0 := rfl
        have w513 : (u2 (u2 dt 79 17 0) 79 9 p1) 80 1 = (u2 dt 79 17 0) 80 1 := rfl
        have w514 : (u2 (u2 dt 79 17 0) 79 9 p1) 80 2 = (u2 dt 79 17 0) 80 2 := rfl
        have w515 : (u2 (u2 dt 79 17 0) 79 9 p1) 80 3 = (u2 dt 79 17 0) 80 3 := rfl
        have w516 : (u2 (u2 dt 79 17 0) 79 9 p1) 80 4 = (u2 dt 79 17 0) 80 4 := rfl
        have w517 : (u2 (u2 dt 79 17 0) 79 9 p1) 80 5 = (u2 dt 79 17 0) 80 5 := rfl
        have E84518 : (u2 (u2 dt 79 17 0) 79 9 p1) 84 = dt 84 := (funext fun _ => u2_ne (by omega)).trans E8422
        refine go_smp (L' := [some (.inr (.inr (some 79))), some (.inl p1), some (.inl p2), none]) (st' := []) (w' := (SH, (u2 (u2 dt 79 17 0) 79 9 p1))) rfl rfl (s_pf rfl rfl rfl rfl ⟨by omega, by omega⟩) ?_
        refine go_to (k := 2) (pc' := 56) (L' := [some (.inr (.inr (some 79))), some (.inl p1), some (.inl p2), none]) (st' := [.inl 0, .inr (.inr (some 79))]) (w' := (SH, (u2 (u2 dt 79 17 0) 79 9 p1))) (fun _ => rfl) ?_
        have hI519 : InvC (u2 (u2 (u2 dt 79 17 0) 79 9 p1) 79 13 0) := InvC_u2 hI500 (lo := 0) (hi := 501) rfl rfl rfl (by omega) (by omega)
        have hF520 : Fr [79, 80, 82, 83, 84] dt (u2 (u2 (u2 dt 79 17 0) 79 9 p1) 79 13 0) := Fr_u2 hF501 (by decide)
        have w521 : (u2 (u2 (u2 dt 79 17 0) 79 9 p1) 79 13 0) 79 2 = (u2 (u2 dt 79 17 0) 79 9 p1) 79 2 := rfl
        have w522 : (u2 (u2 (u2 dt 79 17 0) 79 9 p1) 79 13 0) 79 9 = (u2 (u2 dt 79 17 0) 79 9 p1) 79 9 := rfl
        have w523 : (u2 (u2 (u2 dt 79 17 0) 79 9 p1) 79 13 0) 79 10 = (u2 (u2 dt 79 17 0) 79 9 p1) 79 10 := rfl
        have w524 : (u2 (u2 (u2 dt 79 17 0) 79 9 p1) 79 13 0) 79 11 = (u2 (u2 dt 79 17 0) 79 9 p1) 79 11 := rfl
        have w525 : (u2 (u2 (u2 dt 79 17 0) 79 9 p1) 79 13 0) 79 12 = (u2 (u2 dt 79 17 0) 79 9 p1) 79 12 := rfl
        have w526 : (u2 (u2 (u2 dt 79 17 0) 79 9 p1) 79 13 0) 79 13 = 0 := rfl
        have w527 : (u2 (u2 (u2 dt 79 17 0) 79 9 p1) 79 13 0) 79 14 = (u2 (u2 dt 79 17 0) 79 9 p1) 79 14 := rfl
        have w528 : (u2 (u2 (u2 dt 79 17 0) 79 9 p1) 79 13 0) 79 15 = (u2 (u2 dt 79 17 0) 79 9 p1) 79 15 := rfl
        have w529 : (u2 (u2 (u2 dt 79 17 0) 79 9 p1) 79 13 0) 79 16 = (u2 (u2 dt 79 17 0) 79 9 p1) 79 16 := rfl
        have w530 : (u2 (u2 (u2 dt 79 17 0) 79 9 p1) 79 13 0) 79 20 = (u2 (u2 dt 79 17 0) 79 9 p1) 79 20 := rfl
        have w531 : (u2 (u2 (u2 dt 79 17 0) 79 9 p1) 79 13 0) 80 0 = (u2 (u2 dt 79 17 0) 79 9 p1) 80 0 := rfl
        have w532 : (u2 (u2 (u2 dt 79 17 0) 79 9 p1) 79 13 0) 80 1 = (u2 (u2 dt 79 17 0) 79 9 p1) 80 1 := rfl
        have w533 : (u2 (u2 (u2 dt 79 17 0) 79 9 p1) 79 13 0) 80 2 = (u2 (u2 dt 79 17 0) 79 9 p1) 80 2 := rfl
        have w534 : (u2 (u2 (u2 dt 79 17 0) 79 9 p1) 79 13 0) 80 3 = (u2 (u2 dt 79 17 0) 79 9 p1) 80 3 := rfl
        have w535 : (u2 (u2 (u2 dt 79 17 0) 79 9 p1) 79 13 0) 80 4 = (u2 (u2 dt 79 17 0) 79 9 p1) 80 4 := rfl
        have w536 : (u2 (u2 (u2 dt 79 17 0) 79 9 p1) 79 13 0) 80 5 = (u2 (u2 dt 79 17 0) 79 9 p1) 80 5 := rfl
        have E84537 : (u2 (u2 (u2 dt 79 17 0) 79 9 p1) 79 13 0) 84 = dt 84 := (funext fun _ => u2_ne (by omega)).trans E84518
        refine go_smp (L' := [some (.inr (.inr (some 79))), some (.inl p1), some (.inl p2), none]) (st' := []) (w' := (SH, (u2 (u2 (u2 dt 79 17 0) 79 9 p1) 79 13 0))) rfl rfl (s_pf rfl rfl rfl rfl ⟨by omega, by omega⟩) ?_
        refine go_to (k := 2) (pc' := 61) (L' := [some (.inr (.inr (some 79))), some (.inl p1), some (.inl p2), none]) (st' := [.inl 0, .inr (.inr (some 79))]) (w' := (SH, (u2 (u2 (u2 dt 79 17 0) 79 9 p1) 79 13 0))) (fun _ => rfl) ?_
        have hI538 : InvC (u2 (u2 (u2 (u2 dt 79 17 0) 79 9 p1) 79 13 0) 79 10 0) := InvC_u2 hI519 (lo := 0) (hi := 24) rfl rfl rfl (by omega) (by omega)
        have hF539 : Fr [79, 80, 82, 83, 84] dt (u2 (u2 (u2 (u2 dt 79 17 0) 79 9 p1) 79 13 0) 79 10 0) := Fr_u2 hF520 (by decide)
        have w540 : (u2 (u2 (u2 (u2 dt 79 17 0) 79 9 p1) 79 13 0) 79 10 0) 79 2 = (u2 (u2 (u2 dt 79 17 0) 79 9 p1) 79 13 0) 79 2 := rfl
        have w541 : (u2 (u2 (u2 (u2 dt 79 17 0) 79 9 p1) 79 13 0) 79 10 0) 79 9 = (u2 (u2 (u2 dt 79 17 0) 79 9 p1) 79 13 0) 79 9 := rfl
        have w542 : (u2 (u2 (u2 (u2 dt 79 17 0) 79 9 p1) 79 13 0) 79 10 0) 79 10 = 0 := rfl
        have w543 : (u2 (u2 (u2 (u2 dt 79 17 0) 79 9 p1) 79 13 0) 79 10 0) 79 11 = (u2 (u2 (u2 dt 79 17 0) 79 9 p1) 79 13 0) 79 11 := rfl
        have w544 : (u2 (u2 (u2 (u2 dt 79 17 0) 79 9 p1) 79 13 0) 79 10 0) 79 12 = (u2 (u2 (u2 dt 79 17 0) 79 9 p1) 79 13 0) 79 12 := rfl
        have w545 : (u2 (u2 (u2 (u2 dt 79 17 0) 79 9 p1) 79 13 0) 79 10 0) 79 13 = (u2 (u2 (u2 dt 79 17 0) 79 9 p1) 79 13 0) 79 13 := rfl
        have w546 : (u2 (u2 (u2 (u2 dt 79 17 0) 79 9 p1) 79 13 0) 79 10 0) 79 14 = (u2 (u2 (u2 dt 79 17 0) 79 9 p1) 79 13 0) 79 14 := rfl
        have w547 : (u2 (u2 (u2 (u2 dt 79 17 0) 79 9 p1) 79 13 0) 79 10 0) 79 15 = (u2 (u2 (u2 dt 79 17 0) 79 9 p1) 79 13 0) 79 15 := rfl
        have w548 : (u2 (u2 (u2 (u2 dt 79 17 0) 79 9 p1) 79 13 0) 79 10 0) 79 16 = (u2 (u2 (u2 dt 79 17 0) 79 9 p1) 79 13 0) 79 16 := rfl
        have w549 : (u2 (u2 (u2 (u2 dt 79 17 0) 79 9 p1) 79 13 0) 79 10 0) 79 20 = (u2 (u2 (u2 dt 79 17 0) 79 9 p1) 79 13 0) 79 20 := rfl
        have w550 : (u2 (u2 (u2 (u2 dt 79 17 0) 79 9 p1) 79 13 0) 79 10 0) 80 0 = (u2 (u2 (u2 dt 79 17 0) 79 9 p1) 79 13 0) 80 0 := rfl
        have w551 : (u2 (u2 (u2 (u2 dt 79 17 0) 79 9 p1) 79 13 0) 79 10 0) 80 1 = (u2 (u2 (u2 dt 79 17 0) 79 9 p1) 79 13 0) 80 1 := rfl
        have w552 : (u2 (u2 (u2 (u2 dt 79 17 0) 79 9 p1) 79 13 0) 79 10 0) 80 2 = (u2 (u2 (u2 dt 79 17 0) 79 9 p1) 79 13 0) 80 2 := rfl
        have w553 : (u2 (u2 (u2 (u2 dt 79 17 0) 79 9 p1) 79 13 0) 79 10 0) 80 3 = (u2 (u2 (u2 dt 79 17 0) 79 9 p1) 79 13 0) 80 3 := rfl
        have w554 : (u2 (u2 (u2 (u2 dt 79 17 0) 79 9 p1) 79 13 0) 79 10 0) 80 4 = (u2 (u2 (u2 dt 79 17 0) 79 9 p1) 79 13 0) 80 4 := rfl
        have w555 : (u2 (u2 (u2 (u2 dt 79 17 0) 79 9 p1) 79 13 0) 79 10 0) 80 5 = (u2 (u2 (u2 dt 79 17 0) 79 9 p1) 79 13 0) 80 5 := rfl
        have E84556 : (u2 (u2 (u2 (u2 dt 79 17 0) 79 9 p1) 79 13 0) 79 10 0) 84 = dt 84 := (funext fun _ => u2_ne (by omega)).trans E84537
        refine go_smp (L' := [some (.inr (.inr (some 79))), some (.inl p1), some (.inl p2), none]) (st' := []) (w' := (SH, (u2 (u2 (u2 (u2 dt 79 17 0) 79 9 p1) 79 13 0) 79 10 0))) rfl rfl (s_pf rfl rfl rfl rfl ⟨by omega, by omega⟩) ?_
        refine go_to (k := 2) (pc' := 66) (L' := [some (.inr (.inr (some 79))), some (.inl p1), some (.inl p2), none]) (st' := [.inl 0, .inr (.inr (some 79))]) (w' := (SH, (u2 (u2 (u2 (u2 dt 79 17 0) 79 9 p1) 79 13 0) 79 10 0))) (fun _ => rfl) ?_
        have hI557 : InvC (u2 (u2 (u2 (u2 (u2 dt 79 17 0) 79 9 p1) 79 13 0) 79 10 0) 79 11 0) := InvC_u2 hI538 (lo := 0) (hi := 510) rfl rfl rfl (by omega) (by omega)
        have hF558 : Fr [79, 80, 82, 83, 84] dt (u2 (u2 (u2 (u2 (u2 dt 79 17 0) 79 9 p1) 79 13 0) 79 10 0) 79 11 0) := Fr_u2 hF539 (by decide)
        have w559 : (u2 (u2 (u2 (u2 (u2 dt 79 17 0) 79 9 p1) 79 13 0) 79 10 0) 79 11 0) 79 2 = (u2 (u2 (u2 (u2 dt 79 17 0) 79 9 p1) 79 13 0) 79 10 0) 79 2 := rfl
        have w560 : (u2 (u2 (u2 (u2 (u2 dt 79 17 0) 79 9 p1) 79 13 0) 79 10 0) 79 11 0) 79 9 = (u2 (u2 (u2 (u2 dt 79 17 0) 79 9 p1) 79 13 0) 79 10 0) 79 9 := rfl
        have w561 : (u2 (u2 (u2 (u2 (u2 dt 79 17 0) 79 9 p1) 79 13 0) 79 10 0) 79 11 0) 79 10 = (u2 (u2 (u2 (u2 dt 79 17 0) 79 9 p1) 79 13 0) 79 10 0) 79 10 := rfl
        have w562 : (u2 (u2 (u2 (u2 (u2 dt 79 17 0) 79 9 p1) 79 13 0) 79 10 0) 79 11 0) 79 11 = 0 := rfl
        have w563 : (u2 (u2 (u2 (u2 (u2 dt 79 17 0) 79 9 p1) 79 13 0) 79 10 0) 79 11 0) 79 12 = (u2 (u2 (u2 (u2 dt 79 17 0) 79 9 p1) 79 13 0) 79 10 0) 79 12 := rfl
        have w564 : (u2 (u2 (u2 (u2 (u2 dt 79 17 0) 79 9 p1) 79 13 0) 79 10 0) 79 11 0) 79 13 = (u2 (u2 (u2 (u2 dt 79 17 0) 79 9 p1) 79 13 0) 79 10 0) 79 13 := rfl
        have w565 : (u2 (u2 (u2 (u2 (u2 dt 79 17 0) 79 9 p1) 79 13 0) 79 10 0) 79 11 0) 79 14 = (u2 (u2 (u2 (u2 dt 79 17 0) 79 9 p1) 79 13 0) 79 10 0) 79 14 := rfl
        have w566 : (u2 (u2 (u2 (u2 (u2 dt 79 17 0) 79 9 p1) 79 13 0) 79 10 0) 79 11 0) 79 15 = (u2 (u2 (u2 (u2 dt 79 17 0) 79 9 p1) 79 13 0) 79 10 0) 79 15 := rfl
        have w567 : (u2 (u2 (u2 (u2 (u2 dt 79 17 0) 79 9 p1) 79 13 0) 79 10 0) 79 11 0) 79 16 = (u2 (u2 (u2 (u2 dt 79 17 0) 79 9 p1) 79 13 0) 79 10 0) 79 16 := rfl
        have w568 : (u2 (u2 (u2 (u2 (u2 dt 79 17 0) 79 9 p1) 79 13 0) 79 10 0) 79 11 0) 79 20 = (u2 (u2 (u2 (u2 dt 79 17 0) 79 9 p1) 79 13 0) 79 10 0) 79 20 := rfl
        have w569 : (u2 (u2 (u2 (u2 (u2 dt 79 17 0) 79 9 p1) 79 13 0) 79 10 0) 79 11 0) 80 0 = (u2 (u2 (u2 (u2 dt 79 17 0) 79 9 p1) 79 13 0) 79 10 0) 80 0 := rfl
        have w570 : (u2 (u2 (u2 (u2 (u2 dt 79 17 0) 79 9 p1) 79 13 0) 79 10 0) 79 11 0) 80 1 = (u2 (u2 (u2 (u2 dt 79 17 0) 79 9 p1) 79 13 0) 79 10 0) 80 1 := rfl
        have w571 : (u2 (u2 (u2 (u2 (u2 dt 79 17 0) 79 9 p1) 79 13 0) 79 10 0) 79 11 0) 80 2 = (u2 (u2 (u2 (u2 dt 79 17 0) 79 9 p1) 79 13 0) 79 10 0) 80 2 := rfl
        have w572 : (u2 (u2 (u2 (u2 (u2 dt 79 17 0) 79 9 p1) 79 13 0) 79 10 0) 79 11 0) 80 3 = (u2 (u2 (u2 (u2 dt 79 17 0) 79 9 p1) 79 13 0) 79 10 0) 80 3 := rfl
        have w573 : (u2 (u2 (u2 (u2 (u2 dt 79 17 0) 79 9 p1) 79 13 0) 79 10 0) 79 11 0) 80 4 = (u2 (u2 (u2 (u2 dt 79 17 0) 79 9 p1) 79 13 0) 79 10 0) 80 4 := rfl
        have w574 : (u2 (u2 (u2 (u2 (u2 dt 79 17 0) 79 9 p1) 79 13 0) 79 10 0) 79 11 0) 80 5 = (u2 (u2 (u2 (u2 dt 79 17 0) 79 9 p1) 79 13 0) 79 10 0) 80 5 := rfl
        have E84575 : (u2 (u2 (u2 (u2 (u2 dt 79 17 0) 79 9 p1) 79 13 0) 79 10 0) 79 11 0) 84 = dt 84 := (funext fun _ => u2_ne (by omega)).trans E84556
        refine go_smp (L' := [some (.inr (.inr (some 79))), some (.inl p1), some (.inl p2), none]) (st' := []) (w' := (SH, (u2 (u2 (u2 (u2 (u2 dt 79 17 0) 79 9 p1) 79 13 0) 79 10 0) 79 11 0))) rfl rfl (s_pf rfl rfl rfl rfl ⟨by omega, by omega⟩) ?_
        refine go_to (k := 1) (pc' := 70) (L' := [some (.inr (.inr (some 79))), some (.inl p1), some (.inl p2), none]) (st' := [.inr (.inr (some 79))]) (w' := (SH, (u2 (u2 (u2 (u2 (u2 dt 79 17 0) 79 9 p1) 79 13 0) 79 10 0) 79 11 0))) (fun _ => rfl) ?_
        refine go_call (Q' := _) rfl rfl rfl rfl rfl (sp_X6_next0 L xs sio (d + 31) (u2 (u2 (u2 (u2 (u2 dt 79 17 0) 79 9 p1) 79 13 0) 79 10 0) 79 11 0) hI557   (by first | trivial | omega | exact hI4 (by omega) (by omega) | exact hI5 (by omega) (by omega))) ?_
        rintro _ _ ⟨dt577, rfl, hI578, hF579, h576⟩
        refine ⟨rfl, ?_⟩
        have hF580 : Fr [79, 80, 82, 83, 84] dt dt577 := Fr_tr hF558 hF579 (by decide)
        have hM581 : MW (dt577 80) := MW_fr hM hF579 (by decide)
        have w582 : dt577 80 0 = (u2 (u2 (u2 (u2 (u2 dt 79 17 0) 79 9 p1) 79 13 0) 79 10 0) 79 11 0) 80 0 := hF579 80 (by decide) 0
        have w583 : dt577 80 1 = (u2 (u2 (u2 (u2 (u2 dt 79 17 0) 79 9 p1) 79 13 0) 79 10 0) 79 11 0) 80 1 := hF579 80 (by decide) 1
        have w584 : dt577 80 2 = (u2 (u2 (u2 (u2 (u2 dt 79 17 0) 79 9 p1) 79 13 0) 79 10 0) 79 11 0) 80 2 := hF579 80 (by decide) 2
        have w585 : dt577 80 3 = (u2 (u2 (u2 (u2 (u2 dt 79 17 0) 79 9 p1) 79 13 0) 79 10 0) 79 11 0) 80 3 := hF579 80 (by decide) 3
        have w586 : dt577 80 4 = (u2 (u2 (u2 (u2 (u2 dt 79 17 0) 79 9 p1) 79 13 0) 79 10 0) 79 11 0) 80 4 := hF579 80 (by decide) 4
        have w587 : dt577 80 5 = (u2 (u2 (u2 (u2 (u2 dt 79 17 0) 79 9 p1) 79 13 0) 79 10 0) 79 11 0) 80 5 := hF579 80 (by decide) 5
        have E84588 : dt577 84 = dt 84 := (funext (hF579 84 (by decide))).trans E84575
        rcases h576 with ⟨rfl, h576⟩
        obtain ⟨h576_0, h576_1, h576_2, h576_3, h576_4, h576_5, h576_6, h576_7, h576_8⟩ := h576
        refine go_to (k := 2) (pc' := 75) (L' := [some (.inr (.inr (some 79))), some (.inl p1), some (.inl p2), some (.inl 1)]) (st' := []) (w' := (SH, dt577)) (fun _ => rfl) ?_
        have loop717 : ∀ (k_ : Nat) (l75_3 : Int) (dt699 : Nat → Nat → Int) (hI700 : InvC dt699) (hF701 : Fr [79, 80, 82, 83, 84] dt dt699) (hM_dt699 : MW (dt699 80)) (i702 : 0 ≤ l75_3 ∧ l75_3 ≤ 1) (i703 : l75_3 = 1 → (¬ dt699 79 14 = 0 → dt699 79 15 + 1 ≤ dt699 79 13) ∧ dt699 79 13 ≤ 500) (i704 : dt699 79 15 ≤ 500) (i705 : l75_3 = 1 → dt699 79 11 ≤ dt699 79 15) (i706 : l75_3 = 1 → p1 = 1 → dt699 79 10 ≤ 16) (i707 : l75_3 = 1 → p1 = 0 → ARW (dt699 82) (dt699 79 10)) (i708 : l75_3 = 1 → p1 = 1 → LRW (dt699 83) (dt699 84) (dt699 79 10) (dt699 79 11)) (i709 : dt699 79 2 = dt 79 2) (i710 : dt699 79 9 = p1) (i711 : dt699 80 0 = dt577 80 0) (i712 : dt699 80 1 = dt577 80 1) (i713 : dt699 80 2 = dt577 80 2) (i714 : dt699 80 3 = dt577 80 3) (i715 : dt699 80 4 = dt577 80 4) (i716 : dt699 80 5 = dt577 80 5), (l75_3 * (502 - dt699 79 15)).toNat < k_ → GO (am_XX L xs sio) (d + 38) 174 75 [some (.inr (.inr (some 79))), some (.inl p1), some (.inl p2), some (.inl l75_3)] [] (SH, dt699) (fun r w2 => ∃ dt2 : Nat → Nat → Int, w2 = (SH, dt2) ∧ InvC dt2 ∧ Fr [79, 80, 82, 83, 84] dt dt2 ∧ ((∃ v : Int, r = some (.inl v) ∧ ((-1) ≤ v ∧ v ≤ 24) ∧ (dt2 79 12 = 0) ∧ (dt2 79 2 = dt 79 2) ∧ (MW (dt2 80)) ∧ (dt2 80 0 = dt 80 0) ∧ (dt2 80 1 = dt 80 1) ∧ (dt2 80 2 = dt 80 2) ∧ (dt2 80 3 = dt 80 3) ∧ (dt2 80 4 = dt 80 4) ∧ (dt2 80 5 = dt 80 5)))) := by
          intro k_
          induction k_ with
          | zero => intro l75_3 dt699 hI700 hF701 hM_dt699 i702 i703 i704 i705 i706 i707 i708 i709 i710 i711 i712 i713 i714 i715 i716 hm; exact absurd hm (Nat.not_lt_zero _)
          | succ k_ ih_loop717 =>
            intro l75_3 dt699 hI700 hF701 hM_dt699 i702 i703 i704 i705 i706 i707 i708 i709 i710 i711 i712 i713 i714 i715 i716 hm
            have hI4 := i707
            have hI5 := i708
            have hm1 : l75_3 = 1 → (l75_3 * (502 - dt699 79 15)).toNat = (502 - dt699 79 15).toNat := fun e => by rw [e, Int.one_mul]
            refine go_if (k := 2) (p1 := 123) (p2 := 79) (L' := [some (.inr (.inr (some 79))), some (.inl p1), some (.inl p2), some (.inl l75_3)]) (st' := []) (w' := (SH, dt699)) (fun _ => rfl) (z_eq (a := l75_3) ⟨by omega, by omega⟩) (fun c718 => ?_) (fun c718 => ?_)
            · skip
              refine go_to (k := 2) (pc' := 125) (L' := [some (.inr (.inr (some 79))), some (.inl p1), some (.inl p2), some (.inl l75_3)]) (st' := [.inl 0, .inr (.inr (some 79))]) (w' := (SH, dt699)) (fun _ => rfl) ?_
              have hI719 : InvC (u2 dt699 79 12 0) := InvC_u2 hI700 (lo := 0) (hi := 500) rfl rfl rfl (by omega) (by omega)
              have hF720 : Fr [79, 80, 82, 83, 84] dt (u2 dt699 79 12 0) := Fr_u2 hF701 (by decide)
              have w721 : (u2 dt699 79 12 0) 79 2 = dt699 79 2 := rfl
              have w722 : (u2 dt699 79 12 0) 79 9 = dt699 79 9 := rfl
              have w723 : (u2 dt699 79 12 0) 79 10 = dt699 79 10 := rfl
              have w724 : (u2 dt699 79 12 0) 79 11 = dt699 79 11 := rfl
              have w725 : (u2 dt699 79 12 0) 79 12 = 0 := rfl
              have w726 : (u2 dt699 79 12 0) 79 13 = dt699 79 13 := rfl
              have w727 : (u2 dt699 79 12 0) 79 14 = dt699 79 14 := rfl
              have w728 : (u2 dt699 79 12 0) 79 15 = dt699 79 15 := rfl
              have w729 : (u2 dt699 79 12 0) 79 16 = dt699 79 16 := rfl
              have w730 : (u2 dt699 79 12 0) 79 20 = dt699 79 20 := rfl
              have w731 : (u2 dt699 79 12 0) 80 0 = dt699 80 0 := rfl
              have w732 : (u2 dt699 79 12 0) 80 1 = dt699 80 1 := rfl
              have w733 : (u2 dt699 79 12 0) 80 2 = dt699 80 2 := rfl
              have w734 : (u2 dt699 79 12 0) 80 3 = dt699 80 3 := rfl
              have w735 : (u2 dt699 79 12 0) 80 4 = dt699 80 4 := rfl
              have w736 : (u2 dt699 79 12 0) 80 5 = dt699 80 5 := rfl
              have E84737 : (u2 dt699 79 12 0) 84 = dt699 84 := funext fun _ => u2_ne (by omega)
              refine go_smp (L' := [some (.inr (.inr (some 79))), some (.inl p1), some (.inl p2), some (.inl l75_3)]) (st' := []) (w' := (SH, (u2 dt699 79 12 0))) rfl rfl (s_pf rfl rfl rfl rfl ⟨by omega, by omega⟩) ?_
              have r738 : (-2147483648) ≤ dt699 79 17 ∧ dt699 79 17 ≤ 2147483647 := InvC_get hI700 79 17 rfl rfl
              refine go_to (k := 3) (pc' := 133) (L' := [some (.inr (.inr (some 79))), some (.inl p1), some (.inl p2), some (.inl l75_3)]) (st' := [.inl (dt699 79 17), .inr (.inr (some 79))]) (w' := (SH, (u2 dt699 79 12 0))) (fun _ => rfl) ?_
              have hI739 : InvC (u2 (u2 dt699 79 12 0) 79 19 (dt699 79 17)) := InvC_u2 hI719 (lo := -2147483648) (hi := 2147483647) rfl rfl rfl (by omega) (by omega)
              have hF740 : Fr [79, 80, 82, 83, 84] dt (u2 (u2 dt699 79 12 0) 79 19 (dt699 79 17)) := Fr_u2 hF720 (by decide)
              have w741 : (u2 (u2 dt699 79 12 0) 79 19 (dt699 79 17)) 79 2 = (u2 dt699 79 12 0) 79 2 := rfl
              have w742 : (u2 (u2 dt699 79 12 0) 79 19 (dt699 79 17)) 79 9 = (u2 dt699 79 12 0) 79 9 := rfl
              have w743 : (u2 (u2 dt699 79 12 0) 79 19 (dt699 79 17)) 79 10 = (u2 dt699 79 12 0) 79 10 := rfl
              have w744 : (u2 (u2 dt699 79 12 0) 79 19 (dt699 79 17)) 79 11 = (u2 dt699 79 12 0) 79 11 := rfl
              have w745 : (u2 (u2 dt699 79 12 0) 79 19 (dt699 79 17)) 79 12 = (u2 dt699 79 12 0) 79 12 := rfl
              have w746 : (u2 (u2 dt699 79 12 0) 79 19 (dt699 79 17)) 79 13 = (u2 dt699 79 12 0) 79 13 := rfl
              have w747 : (u2 (u2 dt699 79 12 0) 79 19 (dt699 79 17)) 79 14 = (u2 dt699 79 12 0) 79 14 := rfl
              have w748 : (u2 (u2 dt699 79 12 0) 79 19 (dt699 79 17)) 79 15 = (u2 dt699 79 12 0) 79 15 := rfl
              have w749 : (u2 (u2 dt699 79 12 0) 79 19 (dt699 79 17)) 79 16 = (u2 dt699 79 12 0) 79 16 := rfl
              have w750 : (u2 (u2 dt699 79 12 0) 79 19 (dt699 79 17)) 79 20 = (u2 dt699 79 12 0) 79 20 := rfl
              have w751 : (u2 (u2 dt699 79 12 0) 79 19 (dt699 79 17)) 80 0 = (u2 dt699 79 12 0) 80 0 := rfl
              have w752 : (u2 (u2 dt699 79 12 0) 79 19 (dt699 79 17)) 80 1 = (u2 dt699 79 12 0) 80 1 := rfl
              have w753 : (u2 (u2 dt699 79 12 0) 79 19 (dt699 79 17)) 80 2 = (u2 dt699 79 12 0) 80 2 := rfl
              have w754 : (u2 (u2 dt699 79 12 0) 79 19 (dt699 79 17)) 80 3 = (u2 dt699 79 12 0) 80 3 := rfl
              have w755 : (u2 (u2 dt699 79 12 0) 79 19 (dt699 79 17)) 80 4 = (u2 dt699 79 12 0) 80 4 := rfl
              have w756 : (u2 (u2 dt699 79 12 0) 79 19 (dt699 79 17)) 80 5 = (u2 dt699 79 12 0) 80 5 := rfl
              have E84757 : (u2 (u2 dt699 79 12 0) 79 19 (dt699 79 17)) 84 = dt699 84 := (funext fun _ => u2_ne (by omega)).trans E84737
              refine go_smp (L' := [some (.inr (.inr (some 79))), some (.inl p1), some (.inl p2), some (.inl l75_3)]) (st' := []) (w' := (SH, (u2 (u2 dt699 79 12 0) 79 19 (dt699 79 17)))) rfl rfl (s_pf rfl rfl rfl rfl ⟨by omega, by omega⟩) ?_
              refine go_if (k := 3) (p1 := 145) (p2 := 141) (L' := [some (.inr (.inr (some 79))), some (.inl p1), some (.inl p2), some (.inl l75_3)]) (st' := [.inr (.inr (some 79))]) (w' := (SH, (u2 (u2 dt699 79 12 0) 79 19 (dt699 79 17)))) (fun _ => rfl) (z_eq (a := l75_3) ⟨by omega, by omega⟩) (fun c758 => ?_) (fun c758 => ?_)
              · skip
                have r759 : (-2147483648) ≤ dt699 79 18 ∧ dt699 79 18 ≤ 2147483647 := InvC_get hI700 79 18 rfl rfl
                refine go_to (k := 2) (pc' := 149) (L' := [some (.inr (.inr (some 79))), some (.inl p1), some (.inl p2), some (.inl l75_3)]) (st' := [.inl (dt699 79 18), .inr (.inr (some 79))]) (w' := (SH, (u2 (u2 dt699 79 12 0) 79 19 (dt699 79 17)))) (fun _ => rfl) ?_
                have hI760 : InvC (u2 (u2 (u2 dt699 79 12 0) 79 19 (dt699 79 17)) 79 21 (dt699 79 18)) := InvC_u2 hI739 (lo := -2147483648) (hi := 2147483647) rfl rfl rfl (by omega) (by omega)
                have hF761 : Fr [79, 80, 82, 83, 84] dt (u2 (u2 (u2 dt699 79 12 0) 79 19 (dt699 79 17)) 79 21 (dt699 79 18)) := Fr_u2 hF740 (by decide)
                have w762 : (u2 (u2 (u2 dt699 79 12 0) 79 19 (dt699 79 17)) 79 21 (dt699 79 18)) 79 2 = (u2 (u2 dt699 79 12 0) 79 19 (dt699 79 17)) 79 2 := rfl
                have w763 : (u2 (u2 (u2 dt699 79 12 0) 79 19 (dt699 79 17)) 79 21 (dt699 79 18)) 79 9 = (u2 (u2 dt699 79 12 0) 79 19 (dt699 79 17)) 79 9 := rfl
                have w764 : (u2 (u2 (u2 dt699 79 12 0) 79 19 (dt699 79 17)) 79 21 (dt699 79 18)) 79 10 = (u2 (u2 dt699 79 12 0) 79 19 (dt699 79 17)) 79 10 := rfl
                have w765 : (u2 (u2 (u2 dt699 79 12 0) 79 19 (dt699 79 17)) 79 21 (dt699 79 18)) 79 11 = (u2 (u2 dt699 79 12 0) 79 19 (dt699 79 17)) 79 11 := rfl
                have w766 : (u2 (u2 (u2 dt699 79 12 0) 79 19 (dt699 79 17)) 79 21 (dt699 79 18)) 79 12 = (u2 (u2 dt699 79 12 0) 79 19 (dt699 79 17)) 79 12 := rfl
                have w767 : (u2 (u2 (u2 dt699 79 12 0) 79 19 (dt699 79 17)) 79 21 (dt699 79 18)) 79 13 = (u2 (u2 dt699 79 12 0) 79 19 (dt699 79 17)) 79 13 := rfl
                have w768 : (u2 (u2 (u2 dt699 79 12 0) 79 19 (dt699 79 17)) 79 21 (dt699 79 18)) 79 14 = (u2 (u2 dt699 79 12 0) 79 19 (dt699 79 17)) 79 14 := rfl
                have w769 : (u2 (u2 (u2 dt699 79 12 0) 79 19 (dt699 79 17)) 79 21 (dt699 79 18)) 79 15 = (u2 (u2 dt699 79 12 0) 79 19 (dt699 79 17)) 79 15 := rfl
                have w770 : (u2 (u2 (u2 dt699 79 12 0) 79 19 (dt699 79 17)) 79 21 (dt699 79 18)) 79 16 = (u2 (u2 dt699 79 12 0) 79 19 (dt699 79 17)) 79 16 := rfl
                have w771 : (u2 (u2 (u2 dt699 79 12 0) 79 19 (dt699 79 17)) 79 21 (dt699 79 18)) 79 20 = (u2 (u2 dt699 79 12 0) 79 19 (dt699 79 17)) 79 20 := rfl
                have w772 : (u2 (u2 (u2 dt699 79 12 0) 79 19 (dt699 79 17)) 79 21 (dt699 79 18)) 80 0 = (u2 (u2 dt699 79 12 0) 79 19 (dt699 79 17)) 80 0 := rfl
                have w773 : (u2 (u2 (u2 dt699 79 12 0) 79 19 (dt699 79 17)) 79 21 (dt699 79 18)) 80 1 = (u2 (u2 dt699 79 12 0) 79 19 (dt699 79 17)) 80 1 := rfl
                have w774 : (u2 (u2 (u2 dt699 79 12 0) 79 19 (dt699 79 17)) 79 21 (dt699 79 18)) 80 2 = (u2 (u2 dt699 79 12 0) 79 19 (dt699 79 17)) 80 2 := rfl
                have w775 : (u2 (u2 (u2 dt699 79 12 0) 79 19 (dt699 79 17)) 79 21 (dt699 79 18)) 80 3 = (u2 (u2 dt699 79 12 0) 79 19 (dt699 79 17)) 80 3 := rfl
                have w776 : (u2 (u2 (u2 dt699 79 12 0) 79 19 (dt699 79 17)) 79 21 (dt699 79 18)) 80 4 = (u2 (u2 dt699 79 12 0) 79 19 (dt699 79 17)) 80 4 := rfl
                have w777 : (u2 (u2 (u2 dt699 79 12 0) 79 19 (dt699 79 17)) 79 21 (dt699 79 18)) 80 5 = (u2 (u2 dt699 79 12 0) 79 19 (dt699 79 17)) 80 5 := rfl
                have E84778 : (u2 (u2 (u2 dt699 79 12 0) 79 19 (dt699 79 17)) 79 21 (dt699 79 18)) 84 = dt699 84 := (funext fun _ => u2_ne (by omega)).trans E84757
                refine go_smp (L' := [some (.inr (.inr (some 79))), some (.inl p1), some (.inl p2), some (.inl l75_3)]) (st' := []) (w' := (SH, (u2 (u2 (u2 dt699 79 12 0) 79 19 (dt699 79 17)) 79 21 (dt699 79 18)))) rfl rfl (s_pf rfl rfl rfl rfl ⟨by omega, by omega⟩) ?_
                refine go_if (k := 2) (p1 := 158) (p2 := 156) (L' := [some (.inr (.inr (some 79))), some (.inl p1), some (.inl p2), some (.inl l75_3)]) (st' := []) (w' := (SH, (u2 (u2 (u2 dt699 79 12 0) 79 19 (dt699 79 17)) 79 21 (dt699 79 18)))) (fun _ => rfl) (z_ne (a := l75_3) ⟨by omega, by omega⟩) (fun c779 => ?_) (fun c779 => ?_)
                · skip
                  refine go_to (k := 2) (pc' := 160) (L' := [some (.inr (.inr (some 79))), some (.inl p1), some (.inl p2), some (.inl l75_3)]) (st' := [.inl p2, .inr (.inr (some 79))]) (w' := (SH, (u2 (u2 (u2 dt699 79 12 0) 79 19 (dt699 79 17)) 79 21 (dt699 79 18)))) (fun _ => rfl) ?_
                  refine go_call (Q' := _) rfl rfl rfl rfl rfl (sp_X6_keeps_k0 L xs sio (d + 37) (u2 (u2 (u2 dt699 79 12 0) 79 19 (dt699 79 17)) 79 21 (dt699 79 18)) hI760 hM_dt699  p2 ⟨by omega, by omega⟩ (by first | trivial | omega | exact hI4 (by omega) (by omega) | exact hI5 (by omega) (by omega)) (by first | trivial | omega | exact hI4 (by omega) (by omega) | exact hI5 (by omega) (by omega)) (by first | trivial | omega | exact hI4 (by omega) (by omega) | exact hI5 (by omega) (by omega))) ?_
                  rintro _ _ ⟨dt781, rfl, hI782, hF783, h780⟩
                  refine ⟨rfl, ?_⟩
                  have hF784 : Fr [79, 80, 82, 83, 84] dt dt781 := Fr_tr hF761 hF783 (by decide)
                  have w785 : dt781 79 2 = (u2 (u2 (u2 dt699 79 12 0) 79 19 (dt699 79 17)) 79 21 (dt699 79 18)) 79 2 := hF783 79 (by decide) 2
                  have w786 : dt781 79 9 = (u2 (u2 (u2 dt699 79 12 0) 79 19 (dt699 79 17)) 79 21 (dt699 79 18)) 79 9 := hF783 79 (by decide) 9
                  have w787 : dt781 79 10 = (u2 (u2 (u2 dt699 79 12 0) 79 19 (dt699 79 17)) 79 21 (dt699 79 18)) 79 10 := hF783 79 (by decide) 10
                  have w788 : dt781 79 11 = (u2 (u2 (u2 dt699 79 12 0) 79 19 (dt699 79 17)) 79 21 (dt699 79 18)) 79 11 := hF783 79 (by decide) 11
                  have w789 : dt781 79 12 = (u2 (u2 (u2 dt699 79 12 0) 79 19 (dt699 79 17)) 79 21 (dt699 79 18)) 79 12 := hF783 79 (by decide) 12
                  have w790 : dt781 79 13 = (u2 (u2 (u2 dt699 79 12 0) 79 19 (dt699 79 17)) 79 21 (dt699 79 18)) 79 13 := hF783 79 (by decide) 13
                  have w791 : dt781 79 14 = (u2 (u2 (u2 dt699 79 12 0) 79 19 (dt699 79 17)) 79 21 (dt699 79 18)) 79 14 := hF783 79 (by decide) 14
                  have w792 : dt781 79 15 = (u2 (u2 (u2 dt699 79 12 0) 79 19 (dt699 79 17)) 79 21 (dt699 79 18)) 79 15 := hF783 79 (by decide) 15
                  have w793 : dt781 79 16 = (u2 (u2 (u2 dt699 79 12 0) 79 19 (dt699 79 17)) 79 21 (dt699 79 18)) 79 16 := hF783 79 (by decide) 16
                  have w794 : dt781 79 20 = (u2 (u2 (u2 dt699 79 12 0) 79 19 (dt699 79 17)) 79 21 (dt699 79 18)) 79 20 := hF783 79 (by decide) 20
                  have E84795 : dt781 84 = dt699 84 := (funext (hF783 84 (by decide))).trans E84778
                  rcases h780 with ⟨rfl, h780⟩
                  have hM796 : MW (dt781 80) := h780.1
                  obtain ⟨h780_0, h780_1, h780_2, h780_3, h780_4, h780_5, h780_6⟩ := h780
                  have r797 : 0 ≤ dt781 79 10 ∧ dt781 79 10 ≤ 24 := InvC_get hI782 79 10 rfl rfl
                  refine go_ret (k := 3) (r := some (.inl (dt781 79 10))) (w1 := (SH, dt781)) (fun _ => rfl) ?_
                  exact ⟨dt781, rfl, hI782, hF784, ⟨_, rfl, ⟨by omega, by omega⟩, ⟨by first | trivial | omega, by first | trivial | omega, by first | assumption | exact hM, by first | trivial | omega, by first | trivial | omega, by first | trivial | omega, by first | trivial | omega, by first | trivial | omega, by first | trivial | omega⟩⟩⟩
                · skip
                  refine go_ret (k := 2) (r := some (.inl (-1))) (w1 := (SH, (u2 (u2 (u2 dt699 79 12 0) 79 19 (dt699 79 17)) 79 21 (dt699 79 18)))) (fun _ => rfl) ?_
                  exact ⟨(u2 (u2 (u2 dt699 79 12 0) 79 19 (dt699 79 17)) 79 21 (dt699 79 18)), rfl, hI760, hF761, ⟨_, rfl, ⟨by omega, by omega⟩, ⟨by first | trivial | omega, by first | trivial | omega, by first | assumption | exact hM, by first | trivial | omega, by first | trivial | omega, by first | trivial | omega, by first | trivial | omega, by first | trivial | omega, by first | trivial | omega⟩⟩⟩
              · skip
                refine go_to (k := 2) (pc' := 149) (L' := [some (.inr (.inr (some 79))), some (.inl p1), some (.inl p2), some (.inl l75_3)]) (st' := [.inl (-1), .inr (.inr (some 79))]) (w' := (SH, (u2 (u2 dt699 79 12 0) 79 19 (dt699 79 17)))) (fun _ => rfl) ?_
                have hI798 : InvC (u2 (u2 (u2 dt699 79 12 0) 79 19 (dt699 79 17)) 79 21 (-1)) := InvC_u2 hI739 (lo := -2147483648) (hi := 2147483647) rfl rfl rfl (by omega) (by omega)
                have hF799 : Fr [79, 80, 82, 83, 84] dt (u2 (u2 (u2 dt699 79 12 0) 79 19 (dt699 79 17)) 79 21 (-1)) := Fr_u2 hF740 (by decide)
                have w800 : (u2 (u2 (u2 dt699 79 12 0) 79 19 (dt699 79 17)) 79 21 (-1)) 79 2 = (u2 (u2 dt699 79 12 0) 79 19 (dt699 79 17)) 79 2 := rfl
                have w801 : (u2 (u2 (u2 dt699 79 12 0) 79 19 (dt699 79 17)) 79 21 (-1)) 79 9 = (u2 (u2 dt699 79 12 0) 79 19 (dt699 79 17)) 79 9 := rfl
                have w802 : (u2 (u2 (u2 dt699 79 12 0) 79 19 (dt699 79 17)) 79 21 (-1)) 79 10 = (u2 (u2 dt699 79 12 0) 79 19 (dt699 79 17)) 79 10 := rfl
                have w803 : (u2 (u2 (u2 dt699 79 12 0) 79 19 (dt699 79 17)) 79 21 (-1)) 79 11 = (u2 (u2 dt699 79 12 0) 79 19 (dt699 79 17)) 79 11 := rfl
                have w804 : (u2 (u2 (u2 dt699 79 12 0) 79 19 (dt699 79 17)) 79 21 (-1)) 79 12 = (u2 (u2 dt699 79 12 0) 79 19 (dt699 79 17)) 79 12 := rfl
                have w805 : (u2 (u2 (u2 dt699 79 12 0) 79 19 (dt699 79 17)) 79 21 (-1)) 79 13 = (u2 (u2 dt699 79 12 0) 79 19 (dt699 79 17)) 79 13 := rfl
                have w806 : (u2 (u2 (u2 dt699 79 12 0) 79 19 (dt699 79 17)) 79 21 (-1)) 79 14 = (u2 (u2 dt699 79 12 0) 79 19 (dt699 79 17)) 79 14 := rfl
                have w807 : (u2 (u2 (u2 dt699 79 12 0) 79 19 (dt699 79 17)) 79 21 (-1)) 79 15 = (u2 (u2 dt699 79 12 0) 79 19 (dt699 79 17)) 79 15 := rfl
                have w808 : (u2 (u2 (u2 dt699 79 12 0) 79 19 (dt699 79 17)) 79 21 (-1)) 79 16 = (u2 (u2 dt699 79 12 0) 79 19 (dt699 79 17)) 79 16 := rfl
                have w809 : (u2 (u2 (u2 dt699 79 12 0) 79 19 (dt699 79 17)) 79 21 (-1)) 79 20 = (u2 (u2 dt699 79 12 0) 79 19 (dt699 79 17)) 79 20 := rfl
                have w810 : (u2 (u2 (u2 dt699 79 12 0) 79 19 (dt699 79 17)) 79 21 (-1)) 80 0 = (u2 (u2 dt699 79 12 0) 79 19 (dt699 79 17)) 80 0 := rfl
                have w811 : (u2 (u2 (u2 dt699 79 12 0) 79 19 (dt699 79 17)) 79 21 (-1)) 80 1 = (u2 (u2 dt699 79 12 0) 79 19 (dt699 79 17)) 80 1 := rfl
                have w812 : (u2 (u2 (u2 dt699 79 12 0) 79 19 (dt699 79 17)) 79 21 (-1)) 80 2 = (u2 (u2 dt699 79 12 0) 79 19 (dt699 79 17)) 80 2 := rfl
                have w813 : (u2 (u2 (u2 dt699 79 12 0) 79 19 (dt699 79 17)) 79 21 (-1)) 80 3 = (u2 (u2 dt699 79 12 0) 79 19 (dt699 79 17)) 80 3 := rfl
                have w814 : (u2 (u2 (u2 dt699 79 12 0) 79 19 (dt699 79 17)) 79 21 (-1)) 80 4 = (u2 (u2 dt699 79 12 0) 79 19 (dt699 79 17)) 80 4 := rfl
                have w815 : (u2 (u2 (u2 dt699 79 12 0) 79 19 (dt699 79 17)) 79 21 (-1)) 80 5 = (u2 (u2 dt699 79 12 0) 79 19 (dt699 79 17)) 80 5 := rfl
                have E84816 : (u2 (u2 (u2 dt699 79 12 0) 79 19 (dt699 79 17)) 79 21 (-1)) 84 = dt699 84 := (funext fun _ => u2_ne (by omega)).trans E84757
                refine go_smp (L' := [some (.inr (.inr (some 79))), some (.inl p1), some (.inl p2), some (.inl l75_3)]) (st' := []) (w' := (SH, (u2 (u2 (u2 dt699 79 12 0) 79 19 (dt699 79 17)) 79 21 (-1)))) rfl rfl (s_pf rfl rfl rfl rfl ⟨by omega, by omega⟩) ?_
                refine go_if (k := 2) (p1 := 158) (p2 := 156) (L' := [some (.inr (.inr (some 79))), some (.inl p1), some (.inl p2), some (.inl l75_3)]) (st' := []) (w' := (SH, (u2 (u2 (u2 dt699 79 12 0) 79 19 (dt699 79 17)) 79 21 (-1)))) (fun _ => rfl) (z_ne (a := l75_3) ⟨by omega, by omega⟩) (fun c817 => ?_) (fun c817 => ?_)
                · skip
                  refine go_to (k := 2) (pc' := 160) (L' := [some (.inr (.inr (some 79))), some (.inl p1), some (.inl p2), some (.inl l75_3)]) (st' := [.inl p2, .inr (.inr (some 79))]) (w' := (SH, (u2 (u2 (u2 dt699 79 12 0) 79 19 (dt699 79 17)) 79 21 (-1)))) (fun _ => rfl) ?_
                  refine go_call (Q' := _) rfl rfl rfl rfl rfl (sp_X6_keeps_k0 L xs sio (d + 37) (u2 (u2 (u2 dt699 79 12 0) 79 19 (dt699 79 17)) 79 21 (-1)) hI798 hM_dt699  p2 ⟨by omega, by omega⟩ (by first | trivial | omega | exact hI4 (by omega) (by omega) | exact hI5 (by omega) (by omega)) (by first | trivial | omega | exact hI4 (by omega) (by omega) | exact hI5 (by omega) (by omega)) (by first | trivial | omega | exact hI4 (by omega) (by omega) | exact hI5 (by omega) (by omega))) ?_
                  rintro _ _ ⟨dt819, rfl, hI820, hF821, h818⟩
                  refine ⟨rfl, ?_⟩
                  have hF822 : Fr [79, 80, 82, 83, 84] dt dt819 := Fr_tr hF799 hF821 (by decide)
                  have w823 : dt819 79 2 = (u2 (u2 (u2 dt699 79 12 0) 79 19 (dt699 79 17)) 79 21 (-1)) 79 2 := hF821 79 (by decide) 2
                  have w824 : dt819 79 9 = (u2 (u2 (u2 dt699 79 12 0) 79 19 (dt699 79 17)) 79 21 (-1)) 79 9 := hF821 79 (by decide) 9
                  have w825 : dt819 79 10 = (u2 (u2 (u2 dt699 79 12 0) 79 19 (dt699 79 17)) 79 21 (-1)) 79 10 := hF821 79 (by decide) 10
                  have w826 : dt819 79 11 = (u2 (u2 (u2 dt699 79 12 0) 79 19 (dt699 79 17)) 79 21 (-1)) 79 11 := hF821 79 (by decide) 11
                  have w827 : dt819 79 12 = (u2 (u2 (u2 dt699 79 12 0) 79 19 (dt699 79 17)) 79 21 (-1)) 79 12 := hF821 79 (by decide) 12
                  have w828 : dt819 79 13 = (u2 (u2 (u2 dt699 79 12 0) 79 19 (dt699 79 17)) 79 21 (-1)) 79 13 := hF821 79 (by decide) 13
                  have w829 : dt819 79 14 = (u2 (u2 (u2 dt699 79 12 0) 79 19 (dt699 79 17)) 79 21 (-1)) 79 14 := hF821 79 (by decide) 14
                  have w830 : dt819 79 15 = (u2 (u2 (u2 dt699 79 12 0) 79 19 (dt699 79 17)) 79 21 (-1)) 79 15 := hF821 79 (by decide) 15
                  have w831 : dt819 79 16 = (u2 (u2 (u2 dt699 79 12 0) 79 19 (dt699 79 17)) 79 21 (-1)) 79 16 := hF821 79 (by decide) 16
                  have w832 : dt819 79 20 = (u2 (u2 (u2 dt699 79 12 0) 79 19 (dt699 79 17)) 79 21 (-1)) 79 20 := hF821 79 (by decide) 20
                  have E84833 : dt819 84 = dt699 84 := (funext (hF821 84 (by decide))).trans E84816
                  rcases h818 with ⟨rfl, h818⟩
                  have hM834 : MW (dt819 80) := h818.1
                  obtain ⟨h818_0, h818_1, h818_2, h818_3, h818_4, h818_5, h818_6⟩ := h818
                  have r835 : 0 ≤ dt819 79 10 ∧ dt819 79 10 ≤ 24 := InvC_get hI820 79 10 rfl rfl
                  refine go_ret (k := 3) (r := some (.inl (dt819 79 10))) (w1 := (SH, dt819)) (fun _ => rfl) ?_
                  exact ⟨dt819, rfl, hI820, hF822, ⟨_, rfl, ⟨by omega, by omega⟩, ⟨by first | trivial | omega, by first | trivial | omega, by first | assumption | exact hM, by first | trivial | omega, by first | trivial | omega, by first | trivial | omega, by first | trivial | omega, by first | trivial | omega, by first | trivial | omega⟩⟩⟩
                · exfalso; omega
            · skip
              have r836 : (-2147483648) ≤ dt699 79 14 ∧ dt699 79 14 ≤ 2147483647 := InvC_get hI700 79 14 rfl rfl
              refine go_if (k := 3) (p1 := 123) (p2 := 86) (L' := [some (.inr (.inr (some 79))), some (.inl p1), some (.inl p2), some (.inl l75_3)]) (st' := []) (w' := (SH, dt699)) (fun _ => rfl) (z_eq (a := dt699 79 14) ⟨by omega, by omega⟩) (fun c837 => ?_) (fun c837 => ?_)
              · skip
                refine go_to (k := 2) (pc' := 125) (L' := [some (.inr (.inr (some 79))), some (.inl p1), some (.inl p2), some (.inl l75_3)]) (st' := [.inl 0, .inr (.inr (some 79))]) (w' := (SH, dt699)) (fun _ => rfl) ?_
                have hI838 : InvC (u2 dt699 79 12 0) := InvC_u2 hI700 (lo := 0) (hi := 500) rfl rfl rfl (by omega) (by omega)
                have hF839 : Fr [79, 80, 82, 83, 84] dt (u2 dt699 79 12 0) := Fr_u2 hF701 (by decide)
                have w840 : (u2 dt699 79 12 0) 79 2 = dt699 79 2 := rfl
                have w841 : (u2 dt699 79 12 0) 79 9 = dt699 79 9 := rfl
                have w842 : (u2 dt699 79 12 0) 79 10 = dt699 79 10 := rfl
                have w843 : (u2 dt699 79 12 0) 79 11 = dt699 79 11 := rfl
                have w844 : (u2 dt699 79 12 0) 79 12 = 0 := rfl
                have w845 : (u2 dt699 79 12 0) 79 13 = dt699 79 13 := rfl
                have w846 : (u2 dt699 79 12 0) 79 14 = dt699 79 14 := rfl
                have w847 : (u2 dt699 79 12 0) 79 15 = dt699 79 15 := rfl
                have w848 : (u2 dt699 79 12 0) 79 16 = dt699 79 16 := rfl
                have w849 : (u2 dt699 79 12 0) 79 20 = dt699 79 20 := rfl
                have w850 : (u2 dt699 79 12 0) 80 0 = dt699 80 0 := rfl
                have w851 : (u2 dt699 79 12 0) 80 1 = dt699 80 1 := rfl
                have w852 : (u2 dt699 79 12 0) 80 2 = dt699 80 2 := rfl
                have w853 : (u2 dt699 79 12 0) 80 3 = dt699 80 3 := rfl
                have w854 : (u2 dt699 79 12 0) 80 4 = dt699 80 4 := rfl
                have w855 : (u2 dt699 79 12 0) 80 5 = dt699 80 5 := rfl
                have E84856 : (u2 dt699 79 12 0) 84 = dt699 84 := funext fun _ => u2_ne (by omega)
                refine go_smp (L' := [some (.inr (.inr (some 79))), some (.inl p1), some (.inl p2), some (.inl l75_3)]) (st' := []) (w' := (SH, (u2 dt699 79 12 0))) rfl rfl (s_pf rfl rfl rfl rfl ⟨by omega, by omega⟩) ?_
                have r857 : (-2147483648) ≤ dt699 79 17 ∧ dt699 79 17 ≤ 2147483647 := InvC_get hI700 79 17 rfl rfl
                refine go_to (k := 3) (pc' := 133) (L' := [some (.inr (.inr (some 79))), some (.inl p1), some (.inl p2), some (.inl l75_3)]) (st' := [.inl (dt699 79 17), .inr (.inr (some 79))]) (w' := (SH, (u2 dt699 79 12 0))) (fun _ => rfl) ?_
                have hI858 : InvC (u2 (u2 dt699 79 12 0) 79 19 (dt699 79 17)) := InvC_u2 hI838 (lo := -2147483648) (hi := 2147483647) rfl rfl rfl (by omega) (by omega)
                have hF859 : Fr [79, 80, 82, 83, 84] dt (u2 (u2 dt699 79 12 0) 79 19 (dt699 79 17)) := Fr_u2 hF839 (by decide)
                have w860 : (u2 (u2 dt699 79 12 0) 79 19 (dt699 79 17)) 79 2 = (u2 dt699 79 12 0) 79 2 := rfl
                have w861 : (u2 (u2 dt699 79 12 0) 79 19 (dt699 79 17)) 79 9 = (u2 dt699 79 12 0) 79 9 := rfl
                have w862 : (u2 (u2 dt699 79 12 0) 79 19 (dt699 79 17)) 79 10 = (u2 dt699 79 12 0) 79 10 := rfl
                have w863 : (u2 (u2 dt699 79 12 0) 79 19 (dt699 79 17)) 79 11 = (u2 dt699 79 12 0) 79 11 := rfl
                have w864 : (u2 (u2 dt699 79 12 0) 79 19 (dt699 79 17)) 79 12 = (u2 dt699 79 12 0) 79 12 := rfl
                have w865 : (u2 (u2 dt699 79 12 0) 79 19 (dt699 79 17)) 79 13 = (u2 dt699 79 12 0) 79 13 := rfl
                have w866 : (u2 (u2 dt699 79 12 0) 79 19 (dt699 79 17)) 79 14 = (u2 dt699 79 12 0) 79 14 := rfl
                have w867 : (u2 (u2 dt699 79 12 0) 79 19 (dt699 79 17)) 79 15 = (u2 dt699 79 12 0) 79 15 := rfl
                have w868 : (u2 (u2 dt699 79 12 0) 79 19 (dt699 79 17)) 79 16 = (u2 dt699 79 12 0) 79 16 := rfl
                have w869 : (u2 (u2 dt699 79 12 0) 79 19 (dt699 79 17)) 79 20 = (u2 dt699 79 12 0) 79 20 := rfl
                have w870 : (u2 (u2 dt699 79 12 0) 79 19 (dt699 79 17)) 80 0 = (u2 dt699 79 12 0) 80 0 := rfl
                have w871 : (u2 (u2 dt699 79 12 0) 79 19 (dt699 79 17)) 80 1 = (u2 dt699 79 12 0) 80 1 := rfl
                have w872 : (u2 (u2 dt699 79 12 0) 79 19 (dt699 79 17)) 80 2 = (u2 dt699 79 12 0) 80 2 := rfl
                have w873 : (u2 (u2 dt699 79 12 0) 79 19 (dt699 79 17)) 80 3 = (u2 dt699 79 12 0) 80 3 := rfl
                have w874 : (u2 (u2 dt699 79 12 0) 79 19 (dt699 79 17)) 80 4 = (u2 dt699 79 12 0) 80 4 := rfl
                have w875 : (u2 (u2 dt699 79 12 0) 79 19 (dt699 79 17)) 80 5 = (u2 dt699 79 12 0) 80 5 := rfl
                have E84876 : (u2 (u2 dt699 79 12 0) 79 19 (dt699 79 17)) 84 = dt699 84 := (funext fun _ => u2_ne (by omega)).trans E84856
                refine go_smp (L' := [some (.inr (.inr (some 79))), some (.inl p1), some (.inl p2), some (.inl l75_3)]) (st' := []) (w' := (SH, (u2 (u2 dt699 79 12 0) 79 19 (dt699 79 17)))) rfl rfl (s_pf rfl rfl rfl rfl ⟨by omega, by omega⟩) ?_
                refine go_if (k := 3) (p1 := 145) (p2 := 141) (L' := [some (.inr (.inr (some 79))), some (.inl p1), some (.inl p2), some (.inl l75_3)]) (st' := [.inr (.inr (some 79))]) (w' := (SH, (u2 (u2 dt699 79 12 0) 79 19 (dt699 79 17)))) (fun _ => rfl) (z_eq (a := l75_3) ⟨by omega, by omega⟩) (fun c877 => ?_) (fun c877 => ?_)
                · exfalso; omega
                · skip
                  refine go_to (k := 2) (pc' := 149) (L' := [some (.inr (.inr (some 79))), some (.inl p1), some (.inl p2), some (.inl l75_3)]) (st' := [.inl (-1), .inr (.inr (some 79))]) (w' := (SH, (u2 (u2 dt699 79 12 0) 79 19 (dt699 79 17)))) (fun _ => rfl) ?_
                  have hI878 : InvC (u2 (u2 (u2 dt699 79 12 0) 79 19 (dt699 79 17)) 79 21 (-1)) := InvC_u2 hI858 (lo := -2147483648) (hi := 2147483647) rfl rfl rfl (by omega) (by omega)
                  have hF879 : Fr [79, 80, 82, 83, 84] dt (u2 (u2 (u2 dt699 79 12 0) 79 19 (dt699 79 17)) 79 21 (-1)) := Fr_u2 hF859 (by decide)
                  have w880 : (u2 (u2 (u2 dt699 79 12 0) 79 19 (dt699 79 17)) 79 21 (-1)) 79 2 = (u2 (u2 dt699 79 12 0) 79 19 (dt699 79 17)) 79 2 := rfl
                  have w881 : (u2 (u2 (u2 dt699 79 12 0) 79 19 (dt699 79 17)) 79 21 (-1)) 79 9 = (u2 (u2 dt699 79 12 0) 79 19 (dt699 79 17)) 79 9 := rfl
                  have w882 : (u2 (u2 (u2 dt699 79 12 0) 79 19 (dt699 79 17)) 79 21 (-1)) 79 10 = (u2 (u2 dt699 79 12 0) 79 19 (dt699 79 17)) 79 10 := rfl
                  have w883 : (u2 (u2 (u2 dt699 79 12 0) 79 19 (dt699 79 17)) 79 21 (-1)) 79 11 = (u2 (u2 dt699 79 12 0) 79 19 (dt699 79 17)) 79 11 := rfl
                  have w884 : (u2 (u2 (u2 dt699 79 12 0) 79 19 (dt699 79 17)) 79 21 (-1)) 79 12 = (u2 (u2 dt699 79 12 0) 79 19 (dt699 79 17)) 79 12 := rfl
                  have w885 : (u2 (u2 (u2 dt699 79 12 0) 79 19 (dt699 79 17)) 79 21 (-1)) 79 13 = (u2 (u2 dt699 79 12 0) 79 19 (dt699 79 17)) 79 13 := rfl
                  have w886 : (u2 (u2 (u2 dt699 79 12 0) 79 19 (dt699 79 17)) 79 21 (-1)) 79 14 = (u2 (u2 dt699 79 12 0) 79 19 (dt699 79 17)) 79 14 := rfl
                  have w887 : (u2 (u2 (u2 dt699 79 12 0) 79 19 (dt699 79 17)) 79 21 (-1)) 79 15 = (u2 (u2 dt699 79 12 0) 79 19 (dt699 79 17)) 79 15 := rfl
                  have w888 : (u2 (u2 (u2 dt699 79 12 0) 79 19 (dt699 79 17)) 79 21 (-1)) 79 16 = (u2 (u2 dt699 79 12 0) 79 19 (dt699 79 17)) 79 16 := rfl
                  have w889 : (u2 (u2 (u2 dt699 79 12 0) 79 19 (dt699 79 17)) 79 21 (-1)) 79 20 = (u2 (u2 dt699 79 12 0) 79 19 (dt699 79 17)) 79 20 := rfl
                  have w890 : (u2 (u2 (u2 dt699 79 12 0) 79 19 (dt699 79 17)) 79 21 (-1)) 80 0 = (u2 (u2 dt699 79 12 0) 79 19 (dt699 79 17)) 80 0 := rfl
                  have w891 : (u2 (u2 (u2 dt699 79 12 0) 79 19 (dt699 79 17)) 79 21 (-1)) 80 1 = (u2 (u2 dt699 79 12 0) 79 19 (dt699 79 17)) 80 1 := rfl
                  have w892 : (u2 (u2 (u2 dt699 79 12 0) 79 19 (dt699 79 17)) 79 21 (-1)) 80 2 = (u2 (u2 dt699 79 12 0) 79 19 (dt699 79 17)) 80 2 := rfl
                  have w893 : (u2 (u2 (u2 dt699 79 12 0) 79 19 (dt699 79 17)) 79 21 (-1)) 80 3 = (u2 (u2 dt699 79 12 0) 79 19 (dt699 79 17)) 80 3 := rfl
                  have w894 : (u2 (u2 (u2 dt699 79 12 0) 79 19 (dt699 79 17)) 79 21 (-1)) 80 4 = (u2 (u2 dt699 79 12 0) 79 19 (dt699 79 17)) 80 4 := rfl
                  have w895 : (u2 (u2 (u2 dt699 79 12 0) 79 19 (dt699 79 17)) 79 21 (-1)) 80 5 = (u2 (u2 dt699 79 12 0) 79 19 (dt699 79 17)) 80 5 := rfl
                  have E84896 : (u2 (u2 (u2 dt699 79 12 0) 79 19 (dt699 79 17)) 79 21 (-1)) 84 = dt699 84 := (funext fun _ => u2_ne (by omega)).trans E84876
                  refine go_smp (L' := [some (.inr (.inr (some 79))), some (.inl p1), some (.inl p2), some (.inl l75_3)]) (st' := []) (w' := (SH, (u2 (u2 (u2 dt699 79 12 0) 79 19 (dt699 79 17)) 79 21 (-1)))) rfl rfl (s_pf rfl rfl rfl rfl ⟨by omega, by omega⟩) ?_
                  refine go_if (k := 2) (p1 := 158) (p2 := 156) (L' := [some (.inr (.inr (some 79))), some (.inl p1), some (.inl p2), some (.inl l75_3)]) (st' := []) (w' := (SH, (u2 (u2 (u2 dt699 79 12 0) 79 19 (dt699 79 17)) 79 21 (-1)))) (fun _ => rfl) (z_ne (a := l75_3) ⟨by omega, by omega⟩) (fun c897 => ?_) (fun c897 => ?_)
                  · skip
                    refine go_to (k := 2) (pc' := 160) (L' := [some (.inr (.inr (some 79))), some (.inl p1), some (.inl p2), some (.inl l75_3)]) (st' := [.inl p2, .inr (.inr (some 79))]) (w' := (SH, (u2 (u2 (u2 dt699 79 12 0) 79 19 (dt699 79 17)) 79 21 (-1)))) (fun _ => rfl) ?_
                    refine go_call (Q' := _) rfl rfl rfl rfl rfl (sp_X6_keeps_k0 L xs sio (d + 37) (u2 (u2 (u2 dt699 79 12 0) 79 19 (dt699 79 17)) 79 21 (-1)) hI878 hM_dt699  p2 ⟨by omega, by omega⟩ (by first | trivial | omega | exact hI4 (by omega) (by omega) | exact hI5 (by omega) (by omega)) (by first | trivial | omega | exact hI4 (by omega) (by omega) | exact hI5 (by omega) (by omega)) (by first | trivial | omega | exact hI4 (by omega) (by omega) | exact hI5 (by omega) (by omega))) ?_
                    rintro _ _ ⟨dt899, rfl, hI900, hF901, h898⟩
                    refine ⟨rfl, ?_⟩
                    have hF902 : Fr [79, 80, 82, 83, 84] dt dt899 := Fr_tr hF879 hF901 (by decide)
                    have w903 : dt899 79 2 = (u2 (u2 (u2 dt699 79 12 0) 79 19 (dt699 79 17)) 79 21 (-1)) 79 2 := hF901 79 (by decide) 2
                    have w904 : dt899 79 9 = (u2 (u2 (u2 dt699 79 12 0) 79 19 (dt699 79 17)) 79 21 (-1)) 79 9 := hF901 79 (by decide) 9
                    have w905 : dt899 79 10 = (u2 (u2 (u2 dt699 79 12 0) 79 19 (dt699 79 17)) 79 21 (-1)) 79 10 := hF901 79 (by decide) 10
                    have w906 : dt899 79 11 = (u2 (u2 (u2 dt699 79 12 0) 79 19 (dt699 79 17)) 79 21 (-1)) 79 11 := hF901 79 (by decide) 11
                    have w907 : dt899 79 12 = (u2 (u2 (u2 dt699 79 12 0) 79 19 (dt699 79 17)) 79 21 (-1)) 79 12 := hF901 79 (by decide) 12
                    have w908 : dt899 79 13 = (u2 (u2 (u2 dt699 79 12 0) 79 19 (dt699 79 17)) 79 21 (-1)) 79 13 := hF901 79 (by decide) 13
                    have w909 : dt899 79 14 = (u2 (u2 (u2 dt699 79 12 0) 79 19 (dt699 79 17)) 79 21 (-1)) 79 14 := hF901 79 (by decide) 14
                    have w910 : dt899 79 15 = (u2 (u2 (u2 dt699 79 12 0) 79 19 (dt699 79 17)) 79 21 (-1)) 79 15 := hF901 79 (by decide) 15
                    have w911 : dt899 79 16 = (u2 (u2 (u2 dt699 79 12 0) 79 19 (dt699 79 17)) 79 21 (-1)) 79 16 := hF901 79 (by decide) 16
                    have w912 : dt899 79 20 = (u2 (u2 (u2 dt699 79 12 0) 79 19 (dt699 79 17)) 79 21 (-1)) 79 20 := hF901 79 (by decide) 20
                    have E84913 : dt899 84 = dt699 84 := (funext (hF901 84 (by decide))).trans E84896
                    rcases h898 with ⟨rfl, h898⟩
                    have hM914 : MW (dt899 80) := h898.1
                    obtain ⟨h898_0, h898_1, h898_2, h898_3, h898_4, h898_5, h898_6⟩ := h898
                    have r915 : 0 ≤ dt899 79 10 ∧ dt899 79 10 ≤ 24 := InvC_get hI900 79 10 rfl rfl
                    refine go_ret (k := 3) (r := some (.inl (dt899 79 10))) (w1 := (SH, dt899)) (fun _ => rfl) ?_
                    exact ⟨dt899, rfl, hI900, hF902, ⟨_, rfl, ⟨by omega, by omega⟩, ⟨by first | trivial | omega, by first | trivial | omega, by first | assumption | exact hM, by first | trivial | omega, by first | trivial | omega, by first | trivial | omega, by first | trivial | omega, by first | trivial | omega, by first | trivial | omega⟩⟩⟩
                  · exfalso; omega
              · skip
                refine go_if (k := 2) (p1 := 97) (p2 := 90) (L' := [some (.inr (.inr (some 79))), some (.inl p1), some (.inl p2), some (.inl l75_3)]) (st' := []) (w' := (SH, dt699)) (fun _ => rfl) (z_ne (a := p1) ⟨by omega, by omega⟩) (fun c916 => ?_) (fun c916 => ?_)
                · skip
                  refine go_to (k := 1) (pc' := 98) (L' := [some (.inr (.inr (some 79))), some (.inl p1), some (.inl p2), some (.inl l75_3)]) (st' := [.inr (.inr (some 79))]) (w' := (SH, dt699)) (fun _ => rfl) ?_
                  refine go_call (Q' := _) rfl rfl rfl rfl rfl (sp_X6_aLine L xs sio (d + 0) dt699 hI700   (by first | trivial | omega | exact hI4 (by omega) (by omega) | exact hI5 (by omega) (by omega)) (by first | trivial | omega | exact hI4 (by omega) (by omega) | exact hI5 (by omega) (by omega)) (by first | trivial | omega | exact hI4 (by omega) (by omega) | exact hI5 (by omega) (by omega))) ?_
                  rintro _ _ ⟨dt918, rfl, hI919, hF920, h917⟩
                  refine ⟨rfl, ?_⟩
                  have hF921 : Fr [79, 80, 82, 83, 84] dt dt918 := Fr_tr hF701 hF920 (by decide)
                  have hM922 : MW (dt918 80) := MW_fr hM_dt699 hF920 (by decide)
                  have w923 : dt918 80 0 = dt699 80 0 := hF920 80 (by decide) 0
                  have w924 : dt918 80 1 = dt699 80 1 := hF920 80 (by decide) 1
                  have w925 : dt918 80 2 = dt699 80 2 := hF920 80 (by decide) 2
                  have w926 : dt918 80 3 = dt699 80 3 := hF920 80 (by decide) 3
                  have w927 : dt918 80 4 = dt699 80 4 := hF920 80 (by decide) 4
                  have w928 : dt918 80 5 = dt699 80 5 := hF920 80 (by decide) 5
                  rcases h917 with ⟨rfl, h917⟩ | ⟨rfl, h917⟩
                  · skip
                    obtain ⟨h917_0, h917_1, h917_2⟩ := h917
                    have r929 : 0 ≤ dt918 79 10 ∧ dt918 79 10 ≤ 24 := InvC_get hI919 79 10 rfl rfl
                    refine go_to (k := 8) (pc' := 117) (L' := [some (.inr (.inr (some 79))), some (.inl p1), some (.inl p2), some (.inl 0)]) (st' := [.inl ((dt918 79 10) + 0), .inr (.inr (some 79))]) (w' := (SH, dt918)) (fun _ => rfl) ?_
                    have hI930 : InvC (u2 dt918 79 10 ((dt918 79 10) + 0)) := InvC_u2 hI919 (lo := 0) (hi := 24) rfl rfl rfl (by omega) (by omega)
                    have hF931 : Fr [79, 80, 82, 83, 84] dt (u2 dt918 79 10 ((dt918 79 10) + 0)) := Fr_u2 hF921 (by decide)
                    have w932 : (u2 dt918 79 10 ((dt918 79 10) + 0)) 79 2 = dt918 79 2 := rfl
                    have w933 : (u2 dt918 79 10 ((dt918 79 10) + 0)) 79 9 = dt918 79 9 := rfl
                    have w934 : (u2 dt918 79 10 ((dt918 79 10) + 0)) 79 10 = (dt918 79 10) + 0 := rfl
                    have w935 : (u2 dt918 79 10 ((dt918 79 10) + 0)) 79 11 = dt918 79 11 := rfl
                    have w936 : (u2 dt918 79 10 ((dt918 79 10) + 0)) 79 12 = dt918 79 12 := rfl
                    have w937 : (u2 dt918 79 10 ((dt918 79 10) + 0)) 79 13 = dt918 79 13 := rfl
                    have w938 : (u2 dt918 79 10 ((dt918 79 10) + 0)) 79 14 = dt918 79 14 := rfl
                    have w939 : (u2 dt918 79 10 ((dt918 79 10) + 0)) 79 15 = dt918 79 15 := rfl
                    have w940 : (u2 dt918 79 10 ((dt918 79 10) + 0)) 79 16 = dt918 79 16 := rfl
                    have w941 : (u2 dt918 79 10 ((dt918 79 10) + 0)) 79 20 = dt918 79 20 := rfl
                    have w942 : (u2 dt918 79 10 ((dt918 79 10) + 0)) 80 0 = dt918 80 0 := rfl
                    have w943 : (u2 dt918 79 10 ((dt918 79 10) + 0)) 80 1 = dt918 80 1 := rfl
                    have w944 : (u2 dt918 79 10 ((dt918 79 10) + 0)) 80 2 = dt918 80 2 := rfl
                    have w945 : (u2 dt918 79 10 ((dt918 79 10) + 0)) 80 3 = dt918 80 3 := rfl
                    have w946 : (u2 dt918 79 10 ((dt918 79 10) + 0)) 80 4 = dt918 80 4 := rfl
                    have w947 : (u2 dt918 79 10 ((dt918 79 10) + 0)) 80 5 = dt918 80 5 := rfl
                    have E84948 : (u2 dt918 79 10 ((dt918 79 10) + 0)) 84 = dt918 84 := funext fun _ => u2_ne (by omega)
                    refine go_smp (L' := [some (.inr (.inr (some 79))), some (.inl p1), some (.inl p2), some (.inl 0)]) (st' := []) (w' := (SH, (u2 dt918 79 10 ((dt918 79 10) + 0)))) rfl rfl (s_pf rfl rfl rfl rfl ⟨by omega, by omega⟩) ?_
                    refine go_to (k := 1) (pc' := 75) (L' := [some (.inr (.inr (some 79))), some (.inl p1), some (.inl p2), some (.inl 0)]) (st' := []) (w' := (SH, (u2 dt918 79 10 ((dt918 79 10) + 0)))) (fun _ => rfl) ?_
                    exact GO.le (ih_loop717 0 (u2 dt918 79 10 ((dt918 79 10) + 0)) hI930 hF931 hM922 (by omega) (by omega) (by omega) (by omega) (by omega) (by intro _ hz; first | omega | exact ARW_0 (by omega) | exact ARW_s (hI4 (by omega) hz) (by omega) (by assumption) (by assumption) (by omega)) (by intro _ hz; first | omega | exact LRW_0 (by omega) | exact LRW_s (hI5 (by omega) hz) (by omega) (by assumption) (by assumption) (by assumption) (by omega) (by omega)) (by omega) (by omega) (by omega) (by omega) (by omega) (by omega) (by omega) (by omega) (by omega)) ⟨.inl rfl, .inl rfl, .inl rfl, .inl rfl, trivial⟩
                  · skip
                    obtain ⟨h917_0, h917_1, h917_2, h917_3, h917_4, h917_5, h917_6, h917_7, h917_8, h917_9, h917_10, h917_11, h917_12⟩ := h917
                    have r949 : 0 ≤ dt918 79 10 ∧ dt918 79 10 ≤ 24 := InvC_get hI919 79 10 rfl rfl
                    refine go_to (k := 9) (pc' := 117) (L' := [some (.inr (.inr (some 79))), some (.inl p1), some (.inl p2), some (.inl 1)]) (st' := [.inl ((dt918 79 10) + 1), .inr (.inr (some 79))]) (w' := (SH, dt918)) (fun _ => rfl) ?_
                    have hI950 : InvC (u2 dt918 79 10 ((dt918 79 10) + 1)) := InvC_u2 hI919 (lo := 0) (hi := 24) rfl rfl rfl (by omega) (by omega)
                    have hF951 : Fr [79, 80, 82, 83, 84] dt (u2 dt918 79 10 ((dt918 79 10) + 1)) := Fr_u2 hF921 (by decide)
                    have w952 : (u2 dt918 79 10 ((dt918 79 10) + 1)) 79 2 = dt918 79 2 := rfl
                    have w953 : (u2 dt918 79 10 ((dt918 79 10) + 1)) 79 9 = dt918 79 9 := rfl
                    have w954 : (u2 dt918 79 10 ((dt918 79 10) + 1)) 79 10 = (dt918 79 10) + 1 := rfl
                    have w955 : (u2 dt918 79 10 ((dt918 79 10) + 1)) 79 11 = dt918 79 11 := rfl
                    have w956 : (u2 dt918 79 10 ((dt918 79 10) + 1)) 79 12 = dt918 79 12 := rfl
                    have w957 : (u2 dt918 79 10 ((dt918 79 10) + 1)) 79 13 = dt918 79 13 := rfl
                    have w958 : (u2 dt918 79 10 ((dt918 79 10) + 1)) 79 14 = dt918 79 14 := rfl
                    have w959 : (u2 dt918 79 10 ((dt918 79 10) + 1)) 79 15 = dt918 79 15 := rfl
                    have w960 : (u2 dt918 79 10 ((dt918 79 10) + 1)) 79 16 = dt918 79 16 := rfl
                    have w961 : (u2 dt918 79 10 ((dt918 79 10) + 1)) 79 20 = dt918 79 20 := rfl
                    have w962 : (u2 dt918 79 10 ((dt918 79 10) + 1)) 80 0 = dt918 80 0 := rfl
                    have w963 : (u2 dt918 79 10 ((dt918 79 10) + 1)) 80 1 = dt918 80 1 := rfl
                    have w964 : (u2 dt918 79 10 ((dt918 79 10) + 1)) 80 2 = dt918 80 2 := rfl
                    have w965 : (u2 dt918 79 10 ((dt918 79 10) + 1)) 80 3 = dt918 80 3 := rfl
                    have w966 : (u2 dt918 79 10 ((dt918 79 10) + 1)) 80 4 = dt918 80 4 := rfl
                    have w967 : (u2 dt918 79 10 ((dt918 79 10) + 1)) 80 5 = dt918 80 5 := rfl
                    have E84968 : (u2 dt918 79 10 ((dt918 79 10) + 1)) 84 = dt918 84 := funext fun _ => u2_ne (by omega)
                    refine go_smp (L' := [some (.inr (.inr (some 79))), some (.inl p1), some (.inl p2), some (.inl 1)]) (st' := []) (w' := (SH, (u2 dt918 79 10 ((dt918 79 10) + 1)))) rfl rfl (s_pf rfl rfl rfl rfl ⟨by omega, by omega⟩) ?_
                    refine go_to (k := 1) (pc' := 75) (L' := [some (.inr (.inr (some 79))), some (.inl p1), some (.inl p2), some (.inl 1)]) (st' := []) (w' := (SH, (u2 dt918 79 10 ((dt918 79 10) + 1)))) (fun _ => rfl) ?_
                    exact GO.le (ih_loop717 1 (u2 dt918 79 10 ((dt918 79 10) + 1)) hI950 hF951 hM922 (by omega) (by omega) (by omega) (by omega) (by omega) (by intro _ hz; first | omega | exact ARW_0 (by omega) | exact ARW_s (hI4 (by omega) hz) (by omega) (by assumption) (by assumption) (by omega)) (by intro _ hz; first | omega | exact LRW_0 (by omega) | exact LRW_s (hI5 (by omega) hz) (by omega) (by assumption) (by assumption) (by assumption) (by omega) (by omega)) (by omega) (by omega) (by omega) (by omega) (by omega) (by omega) (by omega) (by omega) (by omega)) ⟨.inl rfl, .inl rfl, .inl rfl, .inl rfl, trivial⟩
                · skip
                  refine go_to (k := 1) (pc' := 91) (L' := [some (.inr (.inr (some 79))), some (.inl p1), some (.inl p2), some (.inl l75_3)]) (st' := [.inr (.inr (some 79))]) (w' := (SH, dt699)) (fun _ => rfl) ?_
                  refine go_call (Q' := _) rfl rfl rfl rfl rfl (sp_X6_anAct L xs sio (d + 28) dt699 hI700   (by first | trivial | omega | exact hI4 (by omega) (by omega) | exact hI5 (by omega) (by omega))) ?_
                  rintro _ _ ⟨dt970, rfl, hI971, hF972, h969⟩
                  refine ⟨rfl, ?_⟩
                  have hF973 : Fr [79, 80, 82, 83, 84] dt dt970 := Fr_tr hF701 hF972 (by decide)
                  have hM974 : MW (dt970 80) := MW_fr hM_dt699 hF972 (by decide)
                  have w975 : dt970 80 0 = dt699 80 0 := hF972 80 (by decide) 0
                  have w976 : dt970 80 1 = dt699 80 1 := hF972 80 (by decide) 1
                  have w977 : dt970 80 2 = dt699 80 2 := hF972 80 (by decide) 2
                  have w978 : dt970 80 3 = dt699 80 3 := hF972 80 (by decide) 3
                  have w979 : dt970 80 4 = dt699 80 4 := hF972 80 (by decide) 4
                  have w980 : dt970 80 5 = dt699 80 5 := hF972 80 (by decide) 5
                  have E84981 : dt970 84 = dt699 84 := funext (hF972 84 (by decide))
                  rcases h969 with ⟨rfl, h969⟩ | ⟨rfl, h969⟩
                  · skip
                    obtain ⟨h969_0, h969_1, h969_2⟩ := h969
                    have r982 : 0 ≤ dt970 79 10 ∧ dt970 79 10 ≤ 24 := InvC_get hI971 79 10 rfl rfl
                    refine go_to (k := 9) (pc' := 117) (L' := [some (.inr (.inr (some 79))), some (.inl p1), some (.inl p2), some (.inl 0)]) (st' := [.inl ((dt970 79 10) + 0), .inr (.inr (some 79))]) (w' := (SH, dt970)) (fun _ => rfl) ?_
                    have hI983 : InvC (u2 dt970 79 10 ((dt970 79 10) + 0)) := InvC_u2 hI971 (lo := 0) (hi := 24) rfl rfl rfl (by omega) (by omega)
                    have hF984 : Fr [79, 80, 82, 83, 84] dt (u2 dt970 79 10 ((dt970 79 10) + 0)) := Fr_u2 hF973 (by decide)
                    have w985 : (u2 dt970 79 10 ((dt970 79 10) + 0)) 79 2 = dt970 79 2 := rfl
                    have w986 : (u2 dt970 79 10 ((dt970 79 10) + 0)) 79 9 = dt970 79 9 := rfl
                    have w987 : (u2 dt970 79 10 ((dt970 79 10) + 0)) 79 10 = (dt970 79 10) + 0 := rfl
                    have w988 : (u2 dt970 79 10 ((dt970 79 10) + 0)) 79 11 = dt970 79 11 := rfl
                    have w989 : (u2 dt970 79 10 ((dt970 79 10) + 0)) 79 12 = dt970 79 12 := rfl
                    have w990 : (u2 dt970 79 10 ((dt970 79 10) + 0)) 79 13 = dt970 79 13 := rfl
                    have w991 : (u2 dt970 79 10 ((dt970 79 10) + 0)) 79 14 = dt970 79 14 := rfl
                    have w992 : (u2 dt970 79 10 ((dt970 79 10) + 0)) 79 15 = dt970 79 15 := rfl
                    have w993 : (u2 dt970 79 10 ((dt970 79 10) + 0)) 79 16 = dt970 79 16 := rfl
                    have w994 : (u2 dt970 79 10 ((dt970 79 10) + 0)) 79 20 = dt970 79 20 := rfl
                    have w995 : (u2 dt970 79 10 ((dt970 79 10) + 0)) 80 0 = dt970 80 0 := rfl
                    have w996 : (u2 dt970 79 10 ((dt970 79 10) + 0)) 80 1 = dt970 80 1 := rfl
                    have w997 : (u2 dt970 79 10 ((dt970 79 10) + 0)) 80 2 = dt970 80 2 := rfl
                    have w998 : (u2 dt970 79 10 ((dt970 79 10) + 0)) 80 3 = dt970 80 3 := rfl
                    have w999 : (u2 dt970 79 10 ((dt970 79 10) + 0)) 80 4 = dt970 80 4 := rfl
                    have w1000 : (u2 dt970 79 10 ((dt970 79 10) + 0)) 80 5 = dt970 80 5 := rfl
                    have E841001 : (u2 dt970 79 10 ((dt970 79 10) + 0)) 84 = dt699 84 := (funext fun _ => u2_ne (by omega)).trans E84981
                    refine go_smp (L' := [some (.inr (.inr (some 79))), some (.inl p1), some (.inl p2), some (.inl 0)]) (st' := []) (w' := (SH, (u2 dt970 79 10 ((dt970 79 10) + 0)))) rfl rfl (s_pf rfl rfl rfl rfl ⟨by omega, by omega⟩) ?_
                    refine go_to (k := 1) (pc' := 75) (L' := [some (.inr (.inr (some 79))), some (.inl p1), some (.inl p2), some (.inl 0)]) (st' := []) (w' := (SH, (u2 dt970 79 10 ((dt970 79 10) + 0)))) (fun _ => rfl) ?_
                    exact GO.le (ih_loop717 0 (u2 dt970 79 10 ((dt970 79 10) + 0)) hI983 hF984 hM974 (by omega) (by omega) (by omega) (by omega) (by omega) (by intro _ hz; first | omega | exact ARW_0 (by omega) | exact ARW_s (hI4 (by omega) hz) (by omega) (by assumption) (by assumption) (by omega)) (by intro _ hz; first | omega | exact LRW_0 (by omega) | exact LRW_s (hI5 (by omega) hz) (by omega) (by assumption) (by assumption) (by assumption) (by omega) (by omega)) (by omega) (by omega) (by omega) (by omega) (by omega) (by omega) (by omega) (by omega) (by omega)) ⟨.inl rfl, .inl rfl, .inl rfl, .inl rfl, trivial⟩
                  · skip
                    obtain ⟨h969_0, h969_1, h969_2, h969_3, h969_4, h969_5, h969_6, h969_7, h969_8, h969_9, h969_10⟩ := h969
                    have r1002 : 0 ≤ dt970 79 10 ∧ dt970 79 10 ≤ 24 := InvC_get hI971 79 10 rfl rfl
                    refine go_to (k := 10) (pc' := 117) (L' := [some (.inr (.inr (some 79))), some (.inl p1), some (.inl p2), some (.inl 1)]) (st' := [.inl ((dt970 79 10) + 1), .inr (.inr (some 79))]) (w' := (SH, dt970)) (fun _ => rfl) ?_
                    have hI1003 : InvC (u2 dt970 79 10 ((dt970 79 10) + 1)) := InvC_u2 hI971 (lo := 0) (hi := 24) rfl rfl rfl (by omega) (by omega)
                    have hF1004 : Fr [79, 80, 82, 83, 84] dt (u2 dt970 79 10 ((dt970 79 10) + 1)) := Fr_u2 hF973 (by decide)
                    have w1005 : (u2 dt970 79 10 ((dt970 79 10) + 1)) 79 2 = dt970 79 2 := rfl
                    have w1006 : (u2 dt970 79 10 ((dt970 79 10) + 1)) 79 9 = dt970 79 9 := rfl
                    have w1007 : (u2 dt970 79 10 ((dt970 79 10) + 1)) 79 10 = (dt970 79 10) + 1 := rfl
                    have w1008 : (u2 dt970 79 10 ((dt970 79 10) + 1)) 79 11 = dt970 79 11 := rfl
                    have w1009 : (u2 dt970 79 10 ((dt970 79 10) + 1)) 79 12 = dt970 79 12 := rfl
                    have w1010 : (u2 dt970 79 10 ((dt970 79 10) + 1)) 79 13 = dt970 79 13 := rfl
                    have w1011 : (u2 dt970 79 10 ((dt970 79 10) + 1)) 79 14 = dt970 79 14 := rfl
                    have w1012 : (u2 dt970 79 10 ((dt970 79 10) + 1)) 79 15 = dt970 79 15 := rfl
                    have w1013 : (u2 dt970 79 10 ((dt970 79 10) + 1)) 79 16 = dt970 79 16 := rfl
                    have w1014 : (u2 dt970 79 10 ((dt970 79 10) + 1)) 79 20 = dt970 79 20 := rfl
                    have w1015 : (u2 dt970 79 10 ((dt970 79 10) + 1)) 80 0 = dt970 80 0 := rfl
                    have w1016 : (u2 dt970 79 10 ((dt970 79 10) + 1)) 80 1 = dt970 80 1 := rfl
                    have w1017 : (u2 dt970 79 10 ((dt970 79 10) + 1)) 80 2 = dt970 80 2 := rfl
                    have w1018 : (u2 dt970 79 10 ((dt970 79 10) + 1)) 80 3 = dt970 80 3 := rfl
                    have w1019 : (u2 dt970 79 10 ((dt970 79 10) + 1)) 80 4 = dt970 80 4 := rfl
                    have w1020 : (u2 dt970 79 10 ((dt970 79 10) + 1)) 80 5 = dt970 80 5 := rfl
                    have E841021 : (u2 dt970 79 10 ((dt970 79 10) + 1)) 84 = dt699 84 := (funext fun _ => u2_ne (by omega)).trans E84981
                    refine go_smp (L' := [some (.inr (.inr (some 79))), some (.inl p1), some (.inl p2), some (.inl 1)]) (st' := []) (w' := (SH, (u2 dt970 79 10 ((dt970 79 10) + 1)))) rfl rfl (s_pf rfl rfl rfl rfl ⟨by omega, by omega⟩) ?_
                    refine go_to (k := 1) (pc' := 75) (L' := [some (.inr (.inr (some 79))), some (.inl p1), some (.inl p2), some (.inl 1)]) (st' := []) (w' := (SH, (u2 dt970 79 10 ((dt970 79 10) + 1)))) (fun _ => rfl) ?_
                    exact GO.le (ih_loop717 1 (u2 dt970 79 10 ((dt970 79 10) + 1)) hI1003 hF1004 hM974 (by omega) (by omega) (by omega) (by omega) (by omega) (by intro _ hz; first | omega | exact ARW_0 (by omega) | exact ARW_s (hI4 (by omega) hz) (by omega) (by assumption) (by assumption) (by omega)) (by intro _ hz; first | omega | exact LRW_0 (by omega) | exact LRW_s (hI5 (by omega) hz) (by omega) (by assumption) (by assumption) (by assumption) (by omega) (by omega)) (by omega) (by omega) (by omega) (by omega) (by omega) (by omega) (by omega) (by omega) (by omega)) ⟨.inl rfl, .inl rfl, .inl rfl, .inl rfl, trivial⟩
        exact GO.le (loop717 _ 1 dt577 hI578 hF580 hM581 (by omega) (by omega) (by omega) (by omega) (by omega) (by intro _ hz; first | omega | exact ARW_0 (by omega) | exact ARW_s (hI4 (by omega) hz) (by omega) (by assumption) (by assumption) (by omega)) (by intro _ hz; first | omega | exact LRW_0 (by omega) | exact LRW_s (hI5 (by omega) hz) (by omega) (by assumption) (by assumption) (by assumption) (by omega) (by omega)) (by omega) (by omega) (by omega) (by omega) (by omega) (by omega) (by omega) (by omega) (Nat.lt_succ_self _)) ⟨.inl rfl, .inl rfl, .inl rfl, .inl rfl, trivial⟩
      · skip
        refine go_to (k := 3) (pc' := 34) (L' := [some (.inr (.inr (some 79))), some (.inl p1), some (.inl p2), none]) (st' := [.inl 0, .inr (.inr (some 79))]) (w' := (SH, (u2 dt 79 17 0))) (fun _ => rfl) ?_
        have hI1022 : InvC (u2 (u2 dt 79 17 0) 79 12 0) := InvC_u2 hI4 (lo := 0) (hi := 500) rfl rfl rfl (by omega) (by omega)
        have hF1023 : Fr [79, 80, 82, 83, 84] dt (u2 (u2 dt 79 17 0) 79 12 0) := Fr_u2 hF5 (by decide)
        have w1024 : (u2 (u2 dt 79 17 0) 79 12 0) 79 2 = (u2 dt 79 17 0) 79 2 := rfl
        have w1025 : (u2 (u2 dt 79 17 0) 79 12 0) 79 9 = (u2 dt 79 17 0) 79 9 := rfl
        have w1026 : (u2 (u2 dt 79 17 0) 79 12 0) 79 10 = (u2 dt 79 17 0) 79 10 := rfl
        have w1027 : (u2 (u2 dt 79 17 0) 79 12 0) 79 11 = (u2 dt 79 17 0) 79 11 := rfl
        have w1028 : (u2 (u2 dt 79 17 0) 79 12 0) 79 12 = 0 := rfl
        have w1029 : (u2 (u2 dt 79 17 0) 79 12 0) 79 13 = (u2 dt 79 17 0) 79 13 := rfl
        have w1030 : (u2 (u2 dt 79 17 0) 79 12 0) 79 14 = (u2 dt 79 17 0) 79 14 := rfl
        have w1031 : (u2 (u2 dt 79 17 0) 79 12 0) 79 15 = (u2 dt 79 17 0) 79 15 := rfl
        have w1032 : (u2 (u2 dt 79 17 0) 79 12 0) 79 16 = (u2 dt 79 17 0) 79 16 := rfl
        have w1033 : (u2 (u2 dt 79 17 0) 79 12 0) 79 20 = (u2 dt 79 17 0) 79 20 := rfl
        have w1034 : (u2 (u2 dt 79 17 0) 79 12 0) 80 0 = (u2 dt 79 17 0) 80 0 := rfl
        have w1035 : (u2 (u2 dt 79 17 0) 79 12 0) 80 1 = (u2 dt 79 17 0) 80 1 := rfl
        have w1036 : (u2 (u2 dt 79 17 0) 79 12 0) 80 2 = (u2 dt 79 17 0) 80 2 := rfl
        have w1037 : (u2 (u2 dt 79 17 0) 79 12 0) 80 3 = (u2 dt 79 17 0) 80 3 := rfl
        have w1038 : (u2 (u2 dt 79 17 0) 79 12 0) 80 4 = (u2 dt 79 17 0) 80 4 := rfl
        have w1039 : (u2 (u2 dt 79 17 0) 79 12 0) 80 5 = (u2 dt 79 17 0) 80 5 := rfl
        have E841040 : (u2 (u2 dt 79 17 0) 79 12 0) 84 = dt 84 := (funext fun _ => u2_ne (by omega)).trans E8422
        refine go_smp (L' := [some (.inr (.inr (some 79))), some (.inl p1), some (.inl p2), none]) (st' := []) (w' := (SH, (u2 (u2 dt 79 17 0) 79 12 0))) rfl rfl (s_pf rfl rfl rfl rfl ⟨by omega, by omega⟩) ?_
        refine go_to (k := 2) (pc' := 39) (L' := [some (.inr (.inr (some 79))), some (.inl p1), some (.inl p2), none]) (st' := [.inl 0, .inr (.inr (some 79))]) (w' := (SH, (u2 (u2 dt 79 17 0) 79 12 0))) (fun _ => rfl) ?_
        have hI1041 : InvC (u2 (u2 (u2 dt 79 17 0) 79 12 0) 79 19 0) := InvC_u2 hI1022 (lo := -2147483648) (hi := 2147483647) rfl rfl rfl (by omega) (by omega)
        have hF1042 : Fr [79, 80, 82, 83, 84] dt (u2 (u2 (u2 dt 79 17 0) 79 12 0) 79 19 0) := Fr_u2 hF1023 (by decide)
        have w1043 : (u2 (u2 (u2 dt 79 17 0) 79 12 0) 79 19 0) 79 2 = (u2 (u2 dt 79 17 0) 79 12 0) 79 2 := rfl
        have w1044 : (u2 (u2 (u2 dt 79 17 0) 79 12 0) 79 19 0) 79 9 = (u2 (u2 dt 79 17 0) 79 12 0) 79 9 := rfl
        have w1045 : (u2 (u2 (u2 dt 79 17 0) 79 12 0) 79 19 0) 79 10 = (u2 (u2 dt 79 17 0) 79 12 0) 79 10 := rfl
        have w1046 : (u2 (u2 (u2 dt 79 17 0) 79 12 0) 79 19 0) 79 11 = (u2 (u2 dt 79 17 0) 79 12 0) 79 11 := rfl
        have w1047 : (u2 (u2 (u2 dt 79 17 0) 79 12 0) 79 19 0) 79 12 = (u2 (u2 dt 79 17 0) 79 12 0) 79 12 := rfl
        have w1048 : (u2 (u2 (u2 dt 79 17 0) 79 12 0) 79 19 0) 79 13 = (u2 (u2 dt 79 17 0) 79 12 0) 79 13 := rfl
        have w1049 : (u2 (u2 (u2 dt 79 17 0) 79 12 0) 79 19 0) 79 14 = (u2 (u2 dt 79 17 0) 79 12 0) 79 14 := rfl
        have w1050 : (u2 (u2 (u2 dt 79 17 0) 79 12 0) 79 19 0) 79 15 = (u2 (u2 dt 79 17 0) 79 12 0) 79 15 := rfl
        have w1051 : (u2 (u2 (u2 dt 79 17 0) 79 12 0) 79 19 0) 79 16 = (u2 (u2 dt 79 17 0) 79 12 0) 79 16 := rfl
        have w1052 : (u2 (u2 (u2 dt 79 17 0) 79 12 0) 79 19 0) 79 20 = (u2 (u2 dt 79 17 0) 79 12 0) 79 20 := rfl
        have w1053 : (u2 (u2 (u2 dt 79 17 0) 79 12 0) 79 19 0) 80 0 = (u2 (u2 dt 79 17 0) 79 12 0) 80 0 := rfl
        have w1054 : (u2 (u2 (u2 dt 79 17 0) 79 12 0) 79 19 0) 80 1 = (u2 (u2 dt 79 17 0) 79 12 0) 80 1 := rfl
        have w1055 : (u2 (u2 (u2 dt 79 17 0) 79 12 0) 79 19 0) 80 2 = (u2 (u2 dt 79 17 0) 79 12 0) 80 2 := rfl
        have w1056 : (u2 (u2 (u2 dt 79 17 0) 79 12 0) 79 19 0) 80 3 = (u2 (u2 dt 79 17 0) 79 12 0) 80 3 := rfl
        have w1057 : (u2 (u2 (u2 dt 79 17 0) 79 12 0) 79 19 0) 80 4 = (u2 (u2 dt 79 17 0) 79 12 0) 80 4 := rfl
        have w1058 : (u2 (u2 (u2 dt 79 17 0) 79 12 0) 79 19 0) 80 5 = (u2 (u2 dt 79 17 0) 79 12 0) 80 5 := rfl
        have E841059 : (u2 (u2 (u2 dt 79 17 0) 79 12 0) 79 19 0) 84 = dt 84 := (funext fun _ => u2_ne (by omega)).trans E841040
        refine go_smp (L' := [some (.inr (.inr (some 79))), some (.inl p1), some (.inl p2), none]) (st' := []) (w' := (SH, (u2 (u2 (u2 dt 79 17 0) 79 12 0) 79 19 0))) rfl rfl (s_pf rfl rfl rfl rfl ⟨by omega, by omega⟩) ?_
        refine go_to (k := 2) (pc' := 44) (L' := [some (.inr (.inr (some 79))), some (.inl p1), some (.inl p2), none]) (st' := [.inl (-1), .inr (.inr (some 79))]) (w' := (SH, (u2 (u2 (u2 dt 79 17 0) 79 12 0) 79 19 0))) (fun _ => rfl) ?_
        have hI1060 : InvC (u2 (u2 (u2 (u2 dt 79 17 0) 79 12 0) 79 19 0) 79 21 (-1)) := InvC_u2 hI1041 (lo := -2147483648) (hi := 2147483647) rfl rfl rfl (by omega) (by omega)
        have hF1061 : Fr [79, 80, 82, 83, 84] dt (u2 (u2 (u2 (u2 dt 79 17 0) 79 12 0) 79 19 0) 79 21 (-1)) := Fr_u2 hF1042 (by decide)
        have w1062 : (u2 (u2 (u2 (u2 dt 79 17 0) 79 12 0) 79 19 0) 79 21 (-1)) 79 2 = (u2 (u2 (u2 dt 79 17 0) 79 12 0) 79 19 0) 79 2 := rfl
        have w1063 : (u2 (u2 (u2 (u2 dt 79 17 0) 79 12 0) 79 19 0) 79 21 (-1)) 79 9 = (u2 (u2 (u2 dt 79 17 0) 79 12 0) 79 19 0) 79 9 := rfl
        have w1064 : (u2 (u2 (u2 (u2 dt 79 17 0) 79 12 0) 79 19 0) 79 21 (-1)) 79 10 = (u2 (u2 (u2 dt 79 17 0) 79 12 0) 79 19 0) 79 10 := rfl
        have w1065 : (u2 (u2 (u2 (u2 dt 79 17 0) 79 12 0) 79 19 0) 79 21 (-1)) 79 11 = (u2 (u2 (u2 dt 79 17 0) 79 12 0) 79 19 0) 79 11 := rfl
        have w1066 : (u2 (u2 (u2 (u2 dt 79 17 0) 79 12 0) 79 19 0) 79 21 (-1)) 79 12 = (u2 (u2 (u2 dt 79 17 0) 79 12 0) 79 19 0) 79 12 := rfl
        have w1067 : (u2 (u2 (u2 (u2 dt 79 17 0) 79 12 0) 79 19 0) 79 21 (-1)) 79 13 = (u2 (u2 (u2 dt 79 17 0) 79 12 0) 79 19 0) 79 13 := rfl
        have w1068 : (u2 (u2 (u2 (u2 dt 79 17 0) 79 12 0) 79 19 0) 79 21 (-1)) 79 14 = (u2 (u2 (u2 dt 79 17 0) 79 12 0) 79 19 0) 79 14 := rfl
        have w1069 : (u2 (u2 (u2 (u2 dt 79 17 0) 79 12 0) 79 19 0) 79 21 (-1)) 79 15 = (u2 (u2 (u2 dt 79 17 0) 79 12 0) 79 19 0) 79 15 := rfl
        have w1070 : (u2 (u2 (u2 (u2 dt 79 17 0) 79 12 0) 79 19 0) 79 21 (-1)) 79 16 = (u2 (u2 (u2 dt 79 17 0) 79 12 0) 79 19 0) 79 16 := rfl
        have w1071 : (u2 (u2 (u2 (u2 dt 79 17 0) 79 12 0) 79 19 0) 79 21 (-1)) 79 20 = (u2 (u2 (u2 dt 79 17 0) 79 12 0) 79 19 0) 79 20 := rfl
        have w1072 : (u2 (u2 (u2 (u2 dt 79 17 0) 79 12 0) 79 19 0) 79 21 (-1)) 80 0 = (u2 (u2 (u2 dt 79 17 0) 79 12 0) 79 19 0) 80 0 := rfl
        have w1073 : (u2 (u2 (u2 (u2 dt 79 17 0) 79 12 0) 79 19 0) 79 21 (-1)) 80 1 = (u2 (u2 (u2 dt 79 17 0) 79 12 0) 79 19 0) 80 1 := rfl
        have w1074 : (u2 (u2 (u2 (u2 dt 79 17 0) 79 12 0) 79 19 0) 79 21 (-1)) 80 2 = (u2 (u2 (u2 dt 79 17 0) 79 12 0) 79 19 0) 80 2 := rfl
        have w1075 : (u2 (u2 (u2 (u2 dt 79 17 0) 79 12 0) 79 19 0) 79 21 (-1)) 80 3 = (u2 (u2 (u2 dt 79 17 0) 79 12 0) 79 19 0) 80 3 := rfl
        have w1076 : (u2 (u2 (u2 (u2 dt 79 17 0) 79 12 0) 79 19 0) 79 21 (-1)) 80 4 = (u2 (u2 (u2 dt 79 17 0) 79 12 0) 79 19 0) 80 4 := rfl
        have w1077 : (u2 (u2 (u2 (u2 dt 79 17 0) 79 12 0) 79 19 0) 79 21 (-1)) 80 5 = (u2 (u2 (u2 dt 79 17 0) 79 12 0) 79 19 0) 80 5 := rfl
        have E841078 : (u2 (u2 (u2 (u2 dt 79 17 0) 79 12 0) 79 19 0) 79 21 (-1)) 84 = dt 84 := (funext fun _ => u2_ne (by omega)).trans E841059
        refine go_smp (L' := [some (.inr (.inr (some 79))), some (.inl p1), some (.inl p2), none]) (st' := []) (w' := (SH, (u2 (u2 (u2 (u2 dt 79 17 0) 79 12 0) 79 19 0) 79 21 (-1)))) rfl rfl (s_pf rfl rfl rfl rfl ⟨by omega, by omega⟩) ?_
        refine go_ret (k := 2) (r := some (.inl (-1))) (w1 := (SH, (u2 (u2 (u2 (u2 dt 79 17 0) 79 12 0) 79 19 0) 79 21 (-1)))) (fun _ => rfl) ?_
        exact ⟨(u2 (u2 (u2 (u2 dt 79 17 0) 79 12 0) 79 19 0) 79 21 (-1)), rfl, hI1060, hF1061, ⟨_, rfl, ⟨by omega, by omega⟩, ⟨by first | trivial | omega, by first | trivial | omega, by first | assumption | exact hM, by first | trivial | omega, by first | trivial | omega, by first | trivial | omega, by first | trivial | omega, by first | trivial | omega, by first | trivial | omega⟩⟩⟩
  · skip
    refine go_to (k := 3) (pc' := 34) (L' := [some (.inr (.inr (some 79))), some (.inl p1), some (.inl p2), none]) (st' := [.inl 0, .inr (.inr (some 79))]) (w' := (SH, (u2 dt 79 17 0))) (fun _ => rfl) ?_
    have hI1079 : InvC (u2 (u2 dt 79 17 0) 79 12 0) := InvC_u2 hI4 (lo := 0) (hi := 500) rfl rfl rfl (by omega) (by omega)
    have hF1080 : Fr [79, 80, 82, 83, 84] dt (u2 (u2 dt 79 17 0) 79 12 0) := Fr_u2 hF5 (by decide)
    have w1081 : (u2 (u2 dt 79 17 0) 79 12 0) 79 2 = (u2 dt 79 17 0) 79 2 := rfl
    have w1082 : (u2 (u2 dt 79 17 0) 79 12 0) 79 9 = (u2 dt 79 17 0) 79 9 := rfl
    have w1083 : (u2 (u2 dt 79 17 0) 79 12 0) 79 10 = (u2 dt 79 17 0) 79 10 := rfl
    have w1084 : (u2 (u2 dt 79 17 0) 79 12 0) 79 11 = (u2 dt 79 17 0) 79 11 := rfl
    have w1085 : (u2 (u2 dt 79 17 0) 79 12 0) 79 12 = 0 := rfl
    have w1086 : (u2 (u2 dt 79 17 0) 79 12 0) 79 13 = (u2 dt 79 17 0) 79 13 := rfl
    have w1087 : (u2 (u2 dt 79 17 0) 79 12 0) 79 14 = (u2 dt 79 17 0) 79 14 := rfl
    have w1088 : (u2 (u2 dt 79 17 0) 79 12 0) 79 15 = (u2 dt 79 17 0) 79 15 := rfl
    have w1089 : (u2 (u2 dt 79 17 0) 79 12 0) 79 16 = (u2 dt 79 17 0) 79 16 := rfl
    have w1090 : (u2 (u2 dt 79 17 0) 79 12 0) 79 20 = (u2 dt 79 17 0) 79 20 := rfl
    have w1091 : (u2 (u2 dt 79 17 0) 79 12 0) 80 0 = (u2 dt 79 17 0) 80 0 := rfl
    have w1092 : (u2 (u2 dt 79 17 0) 79 12 0) 80 1 = (u2 dt 79 17 0) 80 1 := rfl
    have w1093 : (u2 (u2 dt 79 17 0) 79 12 0) 80 2 = (u2 dt 79 17 0) 80 2 := rfl
    have w1094 : (u2 (u2 dt 79 17 0) 79 12 0) 80 3 = (u2 dt 79 17 0) 80 3 := rfl
    have w1095 : (u2 (u2 dt 79 17 0) 79 12 0) 80 4 = (u2 dt 79 17 0) 80 4 := rfl
    have w1096 : (u2 (u2 dt 79 17 0) 79 12 0) 80 5 = (u2 dt 79 17 0) 80 5 := rfl
    have E841097 : (u2 (u2 dt 79 17 0) 79 12 0) 84 = dt 84 := (funext fun _ => u2_ne (by omega)).trans E8422
    refine go_smp (L' := [some (.inr (.inr (some 79))), some (.inl p1), some (.inl p2), none]) (st' := []) (w' := (SH, (u2 (u2 dt 79 17 0) 79 12 0))) rfl rfl (s_pf rfl rfl rfl rfl ⟨by omega, by omega⟩) ?_
    refine go_to (k := 2) (pc' := 39) (L' := [some (.inr (.inr (some 79))), some (.inl p1), some (.inl p2), none]) (st' := [.inl 0, .inr (.inr (some 79))]) (w' := (SH, (u2 (u2 dt 79 17 0) 79 12 0))) (fun _ => rfl) ?_
    have hI1098 : InvC (u2 (u2 (u2 dt 79 17 0) 79 12 0) 79 19 0) := InvC_u2 hI1079 (lo := -2147483648) (hi := 2147483647) rfl rfl rfl (by omega) (by omega)
    have hF1099 : Fr [79, 80, 82, 83, 84] dt (u2 (u2 (u2 dt 79 17 0) 79 12 0) 79 19 0) := Fr_u2 hF1080 (by decide)
    have w1100 : (u2 (u2 (u2 dt 79 17 0) 79 12 0) 79 19 0) 79 2 = (u2 (u2 dt 79 17 0) 79 12 0) 79 2 := rfl
    have w1101 : (u2 (u2 (u2 dt 79 17 0) 79 12 0) 79 19 0) 79 9 = (u2 (u2 dt 79 17 0) 79 12 0) 79 9 := rfl
    have w1102 : (u2 (u2 (u2 dt 79 17 0) 79 12 0) 79 19 0) 79 10 = (u2 (u2 dt 79 17 0) 79 12 0) 79 10 := rfl
    have w1103 : (u2 (u2 (u2 dt 79 17 0) 79 12 0) 79 19 0) 79 11 = (u2 (u2 dt 79 17 0) 79 12 0) 79 11 := rfl
    have w1104 : (u2 (u2 (u2 dt 79 17 0) 79 12 0) 79 19 0) 79 12 = (u2 (u2 dt 79 17 0) 79 12 0) 79 12 := rfl
    have w1105 : (u2 (u2 (u2 dt 79 17 0) 79 12 0) 79 19 0) 79 13 = (u2 (u2 dt 79 17 0) 79 12 0) 79 13 := rfl
    have w1106 : (u2 (u2 (u2 dt 79 17 0) 79 12 0) 79 19 0) 79 14 = (u2 (u2 dt 79 17 0) 79 12 0) 79 14 := rfl
    have w1107 : (u2 (u2 (u2 dt 79 17 0) 79 12 0) 79 19 0) 79 15 = (u2 (u2 dt 79 17 0) 79 12 0) 79 15 := rfl
    have w1108 : (u2 (u2 (u2 dt 79 17 0) 79 12 0) 79 19 0) 79 16 = (u2 (u2 dt 79 17 0) 79 12 0) 79 16 := rfl
    have w1109 : (u2 (u2 (u2 dt 79 17 0) 79 12 0) 79 19 0) 79 20 = (u2 (u2 dt 79 17 0) 79 12 0) 79 20 := rfl
    have w1110 : (u2 (u2 (u2 dt 79 17 0) 79 12 0) 79 19 0) 80 0 = (u2 (u2 dt 79 17 0) 79 12 0) 80 0 := rfl
    have w1111 : (u2 (u2 (u2 dt 79 17 0) 79 12 0) 79 19 0) 80 1 = (u2 (u2 dt 79 17 0) 79 12 0) 80 1 := rfl
    have w1112 : (u2 (u2 (u2 dt 79 17 0) 79 12 0) 79 19 0) 80 2 = (u2 (u2 dt 79 17 0) 79 12 0) 80 2 := rfl
    have w1113 : (u2 (u2 (u2 dt 79 17 0) 79 12 0) 79 19 0) 80 3 = (u2 (u2 dt 79 17 0) 79 12 0) 80 3 := rfl
    have w1114 : (u2 (u2 (u2 dt 79 17 0) 79 12 0) 79 19 0) 80 4 = (u2 (u2 dt 79 17 0) 79 12 0) 80 4 := rfl
    have w1115 : (u2 (u2 (u2 dt 79 17 0) 79 12 0) 79 19 0) 80 5 = (u2 (u2 dt 79 17 0) 79 12 0) 80 5 := rfl
    have E841116 : (u2 (u2 (u2 dt 79 17 0) 79 12 0) 79 19 0) 84 = dt 84 := (funext fun _ => u2_ne (by omega)).trans E841097
    refine go_smp (L' := [some (.inr (.inr (some 79))), some (.inl p1), some (.inl p2), none]) (st' := []) (w' := (SH, (u2 (u2 (u2 dt 79 17 0) 79 12 0) 79 19 0))) rfl rfl (s_pf rfl rfl rfl rfl ⟨by omega, by omega⟩) ?_
    refine go_to (k := 2) (pc' := 44) (L' := [some (.inr (.inr (some 79))), some (.inl p1), some (.inl p2), none]) (st' := [.inl (-1), .inr (.inr (some 79))]) (w' := (SH, (u2 (u2 (u2 dt 79 17 0) 79 12 0) 79 19 0))) (fun _ => rfl) ?_
    have hI1117 : InvC (u2 (u2 (u2 (u2 dt 79 17 0) 79 12 0) 79 19 0) 79 21 (-1)) := InvC_u2 hI1098 (lo := -2147483648) (hi := 2147483647) rfl rfl rfl (by omega) (by omega)
    have hF1118 : Fr [79, 80, 82, 83, 84] dt (u2 (u2 (u2 (u2 dt 79 17 0) 79 12 0) 79 19 0) 79 21 (-1)) := Fr_u2 hF1099 (by decide)
    have w1119 : (u2 (u2 (u2 (u2 dt 79 17 0) 79 12 0) 79 19 0) 79 21 (-1)) 79 2 = (u2 (u2 (u2 dt 79 17 0) 79 12 0) 79 19 0) 79 2 := rfl
    have w1120 : (u2 (u2 (u2 (u2 dt 79 17 0) 79 12 0) 79 19 0) 79 21 (-1)) 79 9 = (u2 (u2 (u2 dt 79 17 0) 79 12 0) 79 19 0) 79 9 := rfl
    have w1121 : (u2 (u2 (u2 (u2 dt 79 17 0) 79 12 0) 79 19 0) 79 21 (-1)) 79 10 = (u2 (u2 (u2 dt 79 17 0) 79 12 0) 79 19 0) 79 10 := rfl
    have w1122 : (u2 (u2 (u2 (u2 dt 79 17 0) 79 12 0) 79 19 0) 79 21 (-1)) 79 11 = (u2 (u2 (u2 dt 79 17 0) 79 12 0) 79 19 0) 79 11 := rfl
    have w1123 : (u2 (u2 (u2 (u2 dt 79 17 0) 79 12 0) 79 19 0) 79 21 (-1)) 79 12 = (u2 (u2 (u2 dt 79 17 0) 79 12 0) 79 19 0) 79 12 := rfl
    have w1124 : (u2 (u2 (u2 (u2 dt 79 17 0) 79 12 0) 79 19 0) 79 21 (-1)) 79 13 = (u2 (u2 (u2 dt 79 17 0) 79 12 0) 79 19 0) 79 13 := rfl
    have w1125 : (u2 (u2 (u2 (u2 dt 79 17 0) 79 12 0) 79 19 0) 79 21 (-1)) 79 14 = (u2 (u2 (u2 dt 79 17 0) 79 12 0) 79 19 0) 79 14 := rfl
    have w1126 : (u2 (u2 (u2 (u2 dt 79 17 0) 79 12 0) 79 19 0) 79 21 (-1)) 79 15 = (u2 (u2 (u2 dt 79 17 0) 79 12 0) 79 19 0) 79 15 := rfl
    have w1127 : (u2 (u2 (u2 (u2 dt 79 17 0) 79 12 0) 79 19 0) 79 21 (-1)) 79 16 = (u2 (u2 (u2 dt 79 17 0) 79 12 0) 79 19 0) 79 16 := rfl
    have w1128 : (u2 (u2 (u2 (u2 dt 79 17 0) 79 12 0) 79 19 0) 79 21 (-1)) 79 20 = (u2 (u2 (u2 dt 79 17 0) 79 12 0) 79 19 0) 79 20 := rfl
    have w1129 : (u2 (u2 (u2 (u2 dt 79 17 0) 79 12 0) 79 19 0) 79 21 (-1)) 80 0 = (u2 (u2 (u2 dt 79 17 0) 79 12 0) 79 19 0) 80 0 := rfl
    have w1130 : (u2 (u2 (u2 (u2 dt 79 17 0) 79 12 0) 79 19 0) 79 21 (-1)) 80 1 = (u2 (u2 (u2 dt 79 17 0) 79 12 0) 79 19 0) 80 1 := rfl
    have w1131 : (u2 (u2 (u2 (u2 dt 79 17 0) 79 12 0) 79 19 0) 79 21 (-1)) 80 2 = (u2 (u2 (u2 dt 79 17 0) 79 12 0) 79 19 0) 80 2 := rfl
    have w1132 : (u2 (u2 (u2 (u2 dt 79 17 0) 79 12 0) 79 19 0) 79 21 (-1)) 80 3 = (u2 (u2 (u2 dt 79 17 0) 79 12 0) 79 19 0) 80 3 := rfl
    have w1133 : (u2 (u2 (u2 (u2 dt 79 17 0) 79 12 0) 79 19 0) 79 21 (-1)) 80 4 = (u2 (u2 (u2 dt 79 17 0) 79 12 0) 79 19 0) 80 4 := rfl
    have w1134 : (u2 (u2 (u2 (u2 dt 79 17 0) 79 12 0) 79 19 0) 79 21 (-1)) 80 5 = (u2 (u2 (u2 dt 79 17 0) 79 12 0) 79 19 0) 80 5 := rfl
    have E841135 : (u2 (u2 (u2 (u2 dt 79 17 0) 79 12 0) 79 19 0) 79 21 (-1)) 84 = dt 84 := (funext fun _ => u2_ne (by omega)).trans E841116
    refine go_smp (L' := [some (.inr (.inr (some 79))), some (.inl p1), some (.inl p2), none]) (st' := []) (w' := (SH, (u2 (u2 (u2 (u2 dt 79 17 0) 79 12 0) 79 19 0) 79 21 (-1)))) rfl rfl (s_pf rfl rfl rfl rfl ⟨by omega, by omega⟩) ?_
    refine go_ret (k := 2) (r := some (.inl (-1))) (w1 := (SH, (u2 (u2 (u2 (u2 dt 79 17 0) 79 12 0) 79 19 0) 79 21 (-1)))) (fun _ => rfl) ?_
    exact ⟨(u2 (u2 (u2 (u2 dt 79 17 0) 79 12 0) 79 19 0) 79 21 (-1)), rfl, hI1117, hF1118, ⟨_, rfl, ⟨by omega, by omega⟩, ⟨by first | trivial | omega, by first | trivial | omega, by first | assumption | exact hM, by first | trivial | omega, by first | trivial | omega, by first | trivial | omega, by first | trivial | omega, by first | trivial | omega, by first | trivial | omega⟩⟩⟩
