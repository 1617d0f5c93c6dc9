theorem K0_lo {f f' g : Nat → Int} {k n i : Int} (h : ∀ j : Nat, f' j = K0 f g k n i j) (hk : 0 ≤ k) (q : Nat) (hq : q < 6) : f' q = f q := by
  rw [h q]; unfold K0; rw [if_neg (by omega), if_neg (by omega)]
theorem K2_lo {f f' g h : Nat → Int} {k n i m : Int} (z : ∀ j : Nat, f' j = K2 (K1 f g k n m) h k i j) (hk : 0 ≤ k) (q : Nat) (hq : q < 6) : f' q = f q := by
  rw [z q]; unfold K2 K1; rw [if_neg (by omega), if_neg (by omega), if_neg (by omega), if_neg (by omega), if_neg (by omega), if_neg (by omega)]
theorem AGR_5 {g0 g1 g2 g3 g4 g5 : Nat → Int} {a a0 b : Int} (e : g5 = g4) (h2 : AGR g4 g3 b) (e2 : g3 = g2) (h1 : AGR g2 g1 a0) (e0 : g1 = g0) (ha : a0 = a) (hb : a ≤ b) : AGR g5 g0 a := by
  subst e; subst e2; subst e0; subst ha; exact AGR_tr h2 rfl h1 hb
set_option maxRecDepth 20000 in
theorem sp_X6_argument (L : Nat) (xs : Nat → Int32) (sio : Option Nat) (d : Nat) (dt : Nat → Nat → Int) (hI : InvC dt)  (p1 : Int) (h_p1 : 1 ≤ p1 ∧ p1 ≤ 4) (p2 : Int) (h_p2 : 0 ≤ p2 ∧ p2 ≤ 3) (h_p0 : (¬ dt 79 14 = 0 → dt 79 15 + 1 ≤ dt 79 13) ∧ dt 79 13 ≤ 500) (h_p1 : dt 79 10 ≤ 23) : GO (am_XX L xs sio) (d + 8) 171 0 [some (.inr (.inr (some 79))), some (.inl p1), some (.inl p2)] [] (SH, dt) (fun r w2 => ∃ dt2 : Nat → Nat → Int, w2 = (SH, dt2) ∧ InvC dt2 ∧ Fr [79, 82] dt dt2 ∧ ((r = some (.inl 0) ∧ (dt2 79 2 = dt 79 2) ∧ (dt2 79 9 = dt 79 9) ∧ (dt2 79 10 = dt 79 10) ∧ (dt2 79 12 = dt 79 12)) ∨ (r = some (.inl 1) ∧ (∀ j : Nat, ¬ (j : Int) = 5 * dt 79 10 + p1 → dt2 82 j = dt 82 j) ∧ (∀ q : Int, q = 5 * dt 79 10 + p1 → 0 ≤ dt2 82 q.toNat ∧ dt2 82 q.toNat ≤ p2) ∧ (dt 79 15 + 1 ≤ dt2 79 15) ∧ ((¬ dt2 79 14 = 0 → dt2 79 15 + 1 ≤ dt2 79 13) ∧ dt2 79 13 ≤ 500) ∧ (dt2 79 15 ≤ 500) ∧ (dt2 79 2 = dt 79 2) ∧ (dt2 79 9 = dt 79 9) ∧ (dt2 79 10 = dt 79 10) ∧ (dt2 79 11 = dt 79 11) ∧ (dt2 79 12 = dt 79 12) ∧ (dt2 79 20 = dt 79 20)))) := by
  have hF : Fr [79, 82] dt dt := Fr_refl
  have r1 : 0 ≤ dt 79 15 ∧ dt 79 15 ≤ 500 := InvC_get hI 79 15 rfl rfl
  have r2 : 0 ≤ dt 79 11 ∧ dt 79 11 ≤ 510 := InvC_get hI 79 11 rfl rfl
  have r3 : 0 ≤ dt 79 10 ∧ dt 79 10 ≤ 24 := InvC_get hI 79 10 rfl rfl
  have r4 : 0 ≤ dt 79 16 ∧ dt 79 16 ≤ 9999 := InvC_get hI 79 16 rfl rfl
  refine go_to (k := 10) (pc' := 16) (L' := [some (.inr (.inr (some 79))), some (.inl p1), some (.inl p2)]) (st' := [.inl (dt 79 16), .inl ((5 * (dt 79 10)) + p1), .inr (.inr (some 82))]) (w' := (SH, dt)) (fun _ => rfl) ?_
  have hI5 : InvC (u2 dt 82 (((5 * (dt 79 10)) + p1).toNat) (dt 79 16)) := InvC_u2 hI (lo := -2147483648) (hi := 2147483647) rfl rfl rfl (by omega) (by omega)
  have hF6 : Fr [79, 82] dt (u2 dt 82 (((5 * (dt 79 10)) + p1).toNat) (dt 79 16)) := Fr_u2 hF (by decide)
  have w7 : (u2 dt 82 (((5 * (dt 79 10)) + p1).toNat) (dt 79 16)) 79 2 = dt 79 2 := rfl
  have w8 : (u2 dt 82 (((5 * (dt 79 10)) + p1).toNat) (dt 79 16)) 79 9 = dt 79 9 := rfl
  have w9 : (u2 dt 82 (((5 * (dt 79 10)) + p1).toNat) (dt 79 16)) 79 10 = dt 79 10 := rfl
  have w10 : (u2 dt 82 (((5 * (dt 79 10)) + p1).toNat) (dt 79 16)) 79 11 = dt 79 11 := rfl
  have w11 : (u2 dt 82 (((5 * (dt 79 10)) + p1).toNat) (dt 79 16)) 79 12 = dt 79 12 := rfl
  have w12 : (u2 dt 82 (((5 * (dt 79 10)) + p1).toNat) (dt 79 16)) 79 13 = dt 79 13 := rfl
  have w13 : (u2 dt 82 (((5 * (dt 79 10)) + p1).toNat) (dt 79 16)) 79 14 = dt 79 14 := rfl
  have w14 : (u2 dt 82 (((5 * (dt 79 10)) + p1).toNat) (dt 79 16)) 79 15 = dt 79 15 := rfl
  have w15 : (u2 dt 82 (((5 * (dt 79 10)) + p1).toNat) (dt 79 16)) 79 16 = dt 79 16 := rfl
  have w16 : (u2 dt 82 (((5 * (dt 79 10)) + p1).toNat) (dt 79 16)) 79 20 = dt 79 20 := rfl
  refine go_smp (L' := [some (.inr (.inr (some 79))), some (.inl p1), some (.inl p2)]) (st' := []) (w' := (SH, (u2 dt 82 (((5 * (dt 79 10)) + p1).toNat) (dt 79 16)))) rfl rfl (s_iast (n := 120) rfl ⟨by omega, by omega⟩ ⟨by omega, by omega⟩) ?_
  refine go_to (k := 3) (pc' := 20) (L' := [some (.inr (.inr (some 79))), some (.inl p1), some (.inl p2)]) (st' := [.inl p2, .inl 0, .inr (.inr (some 79))]) (w' := (SH, (u2 dt 82 (((5 * (dt 79 10)) + p1).toNat) (dt 79 16)))) (fun _ => rfl) ?_
  refine go_call (Q' := _) rfl rfl rfl rfl rfl (sp_X6_number L xs sio (d + 0) (u2 dt 82 (((5 * (dt 79 10)) + p1).toNat) (dt 79 16)) hI5  0 ⟨by omega, by omega⟩ p2 ⟨by omega, by omega⟩ (by first | trivial | omega)) ?_
  rintro _ _ ⟨dt18, rfl, hI19, hF20, h17⟩
  refine ⟨rfl, ?_⟩
  have hF21 : Fr [79, 82] dt dt18 := Fr_tr hF6 hF20 (by decide)
  rcases h17 with ⟨rfl, h17⟩ | ⟨rfl, h17⟩
  · skip
    have EB22 : ∀ j, dt18 82 j = (u2 dt 82 (((5 * (dt 79 10)) + p1).toNat) (dt 79 16)) 82 j := fun j => hF20 82 (by decide) j
    refine go_ret (k := 1) (r := some (.inl 0)) (w1 := (SH, dt18)) (fun _ => rfl) ?_
    exact ⟨dt18, rfl, hI19, hF21, (Or.inl ⟨rfl, ⟨by first | trivial | omega, by first | trivial | omega, by first | trivial | omega, by first | trivial | omega⟩⟩)⟩
  · skip
    have EB23 : ∀ j, dt18 82 j = (u2 dt 82 (((5 * (dt 79 10)) + p1).toNat) (dt 79 16)) 82 j := fun j => hF20 82 (by decide) j
    refine go_ret (k := 1) (r := some (.inl 1)) (w1 := (SH, dt18)) (fun _ => rfl) ?_
    exact ⟨dt18, rfl, hI19, hF21, (Or.inr ⟨rfl, ⟨by intro j hj; rw [EB23 j]; exact u2_ne (by omega), by intro q hq; subst hq; rw [EB23, show u2 dt 82 ((5 * (dt 79 10)) + p1).toNat (dt 79 16) 82 (5 * dt 79 10 + p1).toNat = dt 79 16 from u2_eq]; omega, by first | trivial | omega, by first | trivial | omega, by exact (InvC_get (by assumption) 79 15 rfl rfl).2, by first | trivial | omega, by first | trivial | omega, by first | trivial | omega, by first | trivial | omega, by first | trivial | omega, by first | trivial | omega⟩⟩)⟩
set_option maxHeartbeats 8000000 in
set_option maxRecDepth 20000 in
theorem sp_X6_anAct (L : Nat) (xs : Nat → Int32) (sio : Option Nat) (d : Nat) (dt : Nat → Nat → Int) (hI : InvC dt)   (h_p0 : (¬ dt 79 14 = 0 → dt 79 15 + 1 ≤ dt 79 13) ∧ dt 79 13 ≤ 500) : GO (am_XX L xs sio) (d + 9) 172 0 [some (.inr (.inr (some 79))), none] [] (SH, dt) (fun r w2 => ∃ dt2 : Nat → Nat → Int, w2 = (SH, dt2) ∧ InvC dt2 ∧ Fr [79, 82] dt dt2 ∧ ((r = some (.inl 0) ∧ (dt2 79 2 = dt 79 2) ∧ (dt2 79 9 = dt 79 9) ∧ (dt2 79 12 = dt 79 12)) ∨ (r = some (.inl 1) ∧ (dt 79 10 ≤ 23) ∧ (∀ j : Nat, (j : Int) < 5 * dt 79 10 → dt2 82 j = dt 82 j) ∧ (aOK (dt2 82 ((5 * (dt 79 10))).toNat) (dt2 82 ((5 * (dt 79 10)) + 1).toNat) (dt2 82 ((5 * (dt 79 10)) + 2).toNat) (dt2 82 ((5 * (dt 79 10)) + 3).toNat) (dt2 82 ((5 * (dt 79 10)) + 4).toNat)) ∧ (dt 79 15 + 1 ≤ dt2 79 15) ∧ ((¬ dt2 79 14 = 0 → dt2 79 15 + 1 ≤ dt2 79 13) ∧ dt2 79 13 ≤ 500) ∧ (dt2 79 15 ≤ 500) ∧ (dt2 79 2 = dt 79 2) ∧ (dt2 79 9 = dt 79 9) ∧ (dt2 79 10 = dt 79 10) ∧ (dt2 79 11 = dt 79 11) ∧ (dt2 79 12 = dt 79 12)))) := by
  have hF : Fr [79, 82] dt dt := Fr_refl
  have r1 : 0 ≤ dt 79 15 ∧ dt 79 15 ≤ 500 := InvC_get hI 79 15 rfl rfl
  have r2 : 0 ≤ dt 79 11 ∧ dt 79 11 ≤ 510 := InvC_get hI 79 11 rfl rfl
  have r3 : 0 ≤ dt 79 10 ∧ dt 79 10 ≤ 24 := InvC_get hI 79 10 rfl rfl
  have r4 : (-2147483648) ≤ dt 79 14 ∧ dt 79 14 ≤ 2147483647 := InvC_get hI 79 14 rfl rfl
  refine go_to (k := 4) (pc' := 8) (L' := [some (.inr (.inr (some 79))), none]) (st' := [.inl 28, .inl 20, .inl (dt 79 14)]) (w' := (SH, dt)) (fun _ => rfl) ?_
  refine go_call (Q' := _) rfl rfl rfl rfl rfl (sp_X6_isIn L xs sio (d + 8) dt hI  (dt 79 14) ⟨by omega, by omega⟩ 20 ⟨by omega, by omega⟩ 28 ⟨by omega, by omega⟩ ) ?_
  rintro _ _ ⟨rfl, h5⟩
  refine ⟨rfl, ?_⟩
  rcases h5 with ⟨rfl, h5⟩ | ⟨rfl, h5⟩
  · skip
    refine go_if (k := 5) (p1 := 35) (p2 := 29) (L' := [some (.inr (.inr (some 79))), none]) (st' := []) (w' := (SH, dt)) (fun _ => rfl) (c_ne (a := dt 79 10) (b := 24) ⟨by omega, by omega⟩ ⟨by omega, by omega⟩) (fun c6 => ?_) (fun c6 => ?_)
    · skip
      refine go_to (k := 5) (pc' := 43) (L' := [some (.inr (.inr (some 79))), some (.inl ((dt 79 14) - 20))]) (st' := []) (w' := (SH, dt)) (fun _ => rfl) ?_
      have hc7 : (dt 79 14) - 20 = 0 ∨ (dt 79 14) - 20 = 1 ∨ (dt 79 14) - 20 = 2 ∨ (dt 79 14) - 20 = 3 ∨ (dt 79 14) - 20 = 4 ∨ (dt 79 14) - 20 = 5 ∨ (dt 79 14) - 20 = 6 ∨ (dt 79 14) - 20 = 7 ∨ (dt 79 14) - 20 = 8 := by omega
      rcases hc7 with hc7 | hc7 | hc7 | hc7 | hc7 | hc7 | hc7 | hc7 | hc7
      · rw [hc7]
        refine go_to (k := 1) (pc' := 44) (L' := [some (.inr (.inr (some 79))), some (.inl 0)]) (st' := [.inr (.inr (some 79))]) (w' := (SH, dt)) (fun _ => rfl) ?_
        refine go_call (Q' := _) rfl rfl rfl rfl rfl (sp_X6_next0 L xs sio (d + 2) dt hI   (by first | trivial | omega)) ?_
        rintro _ _ ⟨dt9, rfl, hI10, hF11, h8⟩
        refine ⟨rfl, ?_⟩
        have hF12 : Fr [79, 82] dt dt9 := Fr_tr hF hF11 (by decide)
        have E8413 : dt9 84 = dt 84 := funext (hF11 84 (by decide))
        rcases h8 with ⟨rfl, h8⟩
        obtain ⟨h8_0, h8_1, h8_2, h8_3, h8_4, h8_5, h8_6, h8_7, h8_8⟩ := h8
        have BL14 : ∀ j : Nat, (j : Int) < 5 * dt 79 10 → dt9 82 j = dt 82 j := fun j hj => (hF11 82 (by decide) j).trans ((fun _ _ => rfl) j hj)
        have y15 : dt9 82 ((5 * (dt 79 10))).toNat = dt 82 ((5 * (dt 79 10))).toNat := hF11 82 (by decide) _
        have y16 : dt9 82 ((5 * (dt 79 10)) + 1).toNat = dt 82 ((5 * (dt 79 10)) + 1).toNat := hF11 82 (by decide) _
        have y17 : dt9 82 ((5 * (dt 79 10)) + 2).toNat = dt 82 ((5 * (dt 79 10)) + 2).toNat := hF11 82 (by decide) _
        have y18 : dt9 82 ((5 * (dt 79 10)) + 3).toNat = dt 82 ((5 * (dt 79 10)) + 3).toNat := hF11 82 (by decide) _
        have y19 : dt9 82 ((5 * (dt 79 10)) + 4).toNat = dt 82 ((5 * (dt 79 10)) + 4).toNat := hF11 82 (by decide) _
        have r20 : 0 ≤ dt9 79 10 ∧ dt9 79 10 ≤ 24 := InvC_get hI10 79 10 rfl rfl
        refine go_to (k := 7) (pc' := 58) (L' := [some (.inr (.inr (some 79))), some (.inl 0)]) (st' := [.inl 0, .inl (5 * (dt9 79 10)), .inr (.inr (some 82))]) (w' := (SH, dt9)) (fun _ => rfl) ?_
        have hI21 : InvC (u2 dt9 82 ((5 * (dt9 79 10)).toNat) 0) := InvC_u2 hI10 (lo := -2147483648) (hi := 2147483647) rfl rfl rfl (by omega) (by omega)
        have hF22 : Fr [79, 82] dt (u2 dt9 82 ((5 * (dt9 79 10)).toNat) 0) := Fr_u2 hF12 (by decide)
        have w23 : (u2 dt9 82 ((5 * (dt9 79 10)).toNat) 0) 79 2 = dt9 79 2 := rfl
        have w24 : (u2 dt9 82 ((5 * (dt9 79 10)).toNat) 0) 79 9 = dt9 79 9 := rfl
        have w25 : (u2 dt9 82 ((5 * (dt9 79 10)).toNat) 0) 79 10 = dt9 79 10 := rfl
        have w26 : (u2 dt9 82 ((5 * (dt9 79 10)).toNat) 0) 79 11 = dt9 79 11 := rfl
        have w27 : (u2 dt9 82 ((5 * (dt9 79 10)).toNat) 0) 79 12 = dt9 79 12 := rfl
        have w28 : (u2 dt9 82 ((5 * (dt9 79 10)).toNat) 0) 79 13 = dt9 79 13 := rfl
        have w29 : (u2 dt9 82 ((5 * (dt9 79 10)).toNat) 0) 79 14 = dt9 79 14 := rfl
        have w30 : (u2 dt9 82 ((5 * (dt9 79 10)).toNat) 0) 79 15 = dt9 79 15 := rfl
        have w31 : (u2 dt9 82 ((5 * (dt9 79 10)).toNat) 0) 79 16 = dt9 79 16 := rfl
        have w32 : (u2 dt9 82 ((5 * (dt9 79 10)).toNat) 0) 79 20 = dt9 79 20 := rfl
        have E8433 : (u2 dt9 82 ((5 * (dt9 79 10)).toNat) 0) 84 = dt 84 := (funext fun _ => u2_ne (by omega)).trans E8413
        have ex35 : ((5 * (dt 79 10))).toNat = (5 * (dt9 79 10)).toNat := by omega
        have BL34 : ∀ j : Nat, (j : Int) < 5 * dt 79 10 → (u2 dt9 82 ((5 * (dt9 79 10)).toNat) 0) 82 j = dt 82 j := fun j hj => (u2_ne (by omega)).trans (BL14 j hj)
        have y36 : (u2 dt9 82 ((5 * (dt9 79 10)).toNat) 0) 82 ((5 * (dt 79 10))).toNat = 0 := by rw [ex35]; exact u2_eq
        have y37 : (u2 dt9 82 ((5 * (dt9 79 10)).toNat) 0) 82 ((5 * (dt 79 10)) + 1).toNat = dt9 82 ((5 * (dt 79 10)) + 1).toNat := u2_ne (by omega)
        have y38 : (u2 dt9 82 ((5 * (dt9 79 10)).toNat) 0) 82 ((5 * (dt 79 10)) + 2).toNat = dt9 82 ((5 * (dt 79 10)) + 2).toNat := u2_ne (by omega)
        have y39 : (u2 dt9 82 ((5 * (dt9 79 10)).toNat) 0) 82 ((5 * (dt 79 10)) + 3).toNat = dt9 82 ((5 * (dt 79 10)) + 3).toNat := u2_ne (by omega)
        have y40 : (u2 dt9 82 ((5 * (dt9 79 10)).toNat) 0) 82 ((5 * (dt 79 10)) + 4).toNat = dt9 82 ((5 * (dt 79 10)) + 4).toNat := u2_ne (by omega)
        refine go_smp (L' := [some (.inr (.inr (some 79))), some (.inl 0)]) (st' := []) (w' := (SH, (u2 dt9 82 ((5 * (dt9 79 10)).toNat) 0))) rfl rfl (s_iast (n := 120) rfl ⟨by omega, by omega⟩ ⟨by omega, by omega⟩) ?_
        refine go_to (k := 6) (pc' := 72) (L' := [some (.inr (.inr (some 79))), some (.inl 0)]) (st' := [.inl 3, .inl 1, .inr (.inr (some 79))]) (w' := (SH, (u2 dt9 82 ((5 * (dt9 79 10)).toNat) 0))) (fun _ => rfl) ?_
        refine go_call (Q' := _) rfl rfl rfl rfl rfl (sp_X6_argument L xs sio (d + 0) (u2 dt9 82 ((5 * (dt9 79 10)).toNat) 0) hI21  1 ⟨by omega, by omega⟩ 3 ⟨by omega, by omega⟩ (by first | trivial | omega) (by first | trivial | omega)) ?_
        rintro _ _ ⟨dt42, rfl, hI43, hF44, h41⟩
        refine ⟨rfl, ?_⟩
        have hF45 : Fr [79, 82] dt dt42 := Fr_tr hF22 hF44 (by decide)
        have E8446 : dt42 84 = dt 84 := (funext (hF44 84 (by decide))).trans E8433
        rcases h41 with ⟨rfl, h41⟩ | ⟨rfl, h41⟩
        · skip
          obtain ⟨h41_0, h41_1, h41_2, h41_3⟩ := h41
          refine go_ret (k := 3) (r := some (.inl 0)) (w1 := (SH, dt42)) (fun _ => rfl) ?_
          exact ⟨dt42, rfl, hI43, hF45, (Or.inl ⟨rfl, ⟨by first | trivial | omega, by first | trivial | omega, by first | trivial | omega⟩⟩)⟩
        · skip
          obtain ⟨h41_0, h41_1, h41_2, h41_3, h41_4, h41_5, h41_6, h41_7, h41_8, h41_9, h41_10⟩ := h41
          have BL47 : ∀ j : Nat, (j : Int) < 5 * dt 79 10 → dt42 82 j = dt 82 j := fun j hj => (h41_0 j (by omega)).trans (BL34 j hj)
          have y48 : dt42 82 ((5 * (dt 79 10))).toNat = (u2 dt9 82 ((5 * (dt9 79 10)).toNat) 0) 82 ((5 * (dt 79 10))).toNat := h41_0 ((5 * (dt 79 10))).toNat (by omega)
          have y49 : dt42 82 ((5 * (dt 79 10)) + 2).toNat = (u2 dt9 82 ((5 * (dt9 79 10)).toNat) 0) 82 ((5 * (dt 79 10)) + 2).toNat := h41_0 ((5 * (dt 79 10)) + 2).toNat (by omega)
          have y50 : dt42 82 ((5 * (dt 79 10)) + 3).toNat = (u2 dt9 82 ((5 * (dt9 79 10)).toNat) 0) 82 ((5 * (dt 79 10)) + 3).toNat := h41_0 ((5 * (dt 79 10)) + 3).toNat (by omega)
          have y51 : dt42 82 ((5 * (dt 79 10)) + 4).toNat = (u2 dt9 82 ((5 * (dt9 79 10)).toNat) 0) 82 ((5 * (dt 79 10)) + 4).toNat := h41_0 ((5 * (dt 79 10)) + 4).toNat (by omega)
          have y52 := h41_1 ((5 * (dt 79 10)) + 1) (by omega)
          refine go_to (k := 30) (pc' := 208) (L' := [some (.inr (.inr (some 79))), some (.inl 0)]) (st' := [.inl 159, .inr (.inr (some 79))]) (w' := (SH, dt42)) (fun _ => rfl) ?_
          refine go_call (Q' := _) rfl rfl rfl rfl rfl (sp_X6_need0 L xs sio (d + 1) dt42 hI43  159 ⟨by omega, by omega⟩ (by first | trivial | omega)) ?_
          rintro _ _ ⟨dt54, rfl, hI55, hF56, h53⟩
          refine ⟨rfl, ?_⟩
          have hF57 : Fr [79, 82] dt dt54 := Fr_tr hF45 hF56 (by decide)
          have E8458 : dt54 84 = dt 84 := (funext (hF56 84 (by decide))).trans E8446
          rcases h53 with ⟨rfl, h53⟩ | ⟨rfl, h53⟩
          · skip
            obtain ⟨h53_0, h53_1, h53_2, h53_3⟩ := h53
            have BL59 : ∀ j : Nat, (j : Int) < 5 * dt 79 10 → dt54 82 j = dt 82 j := fun j hj => (hF56 82 (by decide) j).trans (BL47 j hj)
            have y60 : dt54 82 ((5 * (dt 79 10))).toNat = dt42 82 ((5 * (dt 79 10))).toNat := hF56 82 (by decide) _
            have y61 : dt54 82 ((5 * (dt 79 10)) + 1).toNat = dt42 82 ((5 * (dt 79 10)) + 1).toNat := hF56 82 (by decide) _
            have y62 : dt54 82 ((5 * (dt 79 10)) + 2).toNat = dt42 82 ((5 * (dt 79 10)) + 2).toNat := hF56 82 (by decide) _
            have y63 : dt54 82 ((5 * (dt 79 10)) + 3).toNat = dt42 82 ((5 * (dt 79 10)) + 3).toNat := hF56 82 (by decide) _
            have y64 : dt54 82 ((5 * (dt 79 10)) + 4).toNat = dt42 82 ((5 * (dt 79 10)) + 4).toNat := hF56 82 (by decide) _
            refine go_ret (k := 1) (r := some (.inl 0)) (w1 := (SH, dt54)) (fun _ => rfl) ?_
            exact ⟨dt54, rfl, hI55, hF57, (Or.inl ⟨rfl, ⟨by first | trivial | omega, by first | trivial | omega, by first | trivial | omega⟩⟩)⟩
          · skip
            obtain ⟨h53_0, h53_1, h53_2, h53_3, h53_4, h53_5, h53_6, h53_7, h53_8⟩ := h53
            have BL65 : ∀ j : Nat, (j : Int) < 5 * dt 79 10 → dt54 82 j = dt 82 j := fun j hj => (hF56 82 (by decide) j).trans (BL47 j hj)
            have y66 : dt54 82 ((5 * (dt 79 10))).toNat = dt42 82 ((5 * (dt 79 10))).toNat := hF56 82 (by decide) _
            have y67 : dt54 82 ((5 * (dt 79 10)) + 1).toNat = dt42 82 ((5 * (dt 79 10)) + 1).toNat := hF56 82 (by decide) _
            have y68 : dt54 82 ((5 * (dt 79 10)) + 2).toNat = dt42 82 ((5 * (dt 79 10)) + 2).toNat := hF56 82 (by decide) _
            have y69 : dt54 82 ((5 * (dt 79 10)) + 3).toNat = dt42 82 ((5 * (dt 79 10)) + 3).toNat := hF56 82 (by decide) _
            have y70 : dt54 82 ((5 * (dt 79 10)) + 4).toNat = dt42 82 ((5 * (dt 79 10)) + 4).toNat := hF56 82 (by decide) _
            refine go_ret (k := 1) (r := some (.inl 1)) (w1 := (SH, dt54)) (fun _ => rfl) ?_
            exact ⟨dt54, rfl, hI55, hF57, (Or.inr ⟨rfl, ⟨by first | trivial | omega, by exact BL65, by unfold aOK; omega, by first | trivial | omega, by first | trivial | omega, by exact (InvC_get (by assumption) 79 15 rfl rfl).2, by first | trivial | omega, by first | trivial | omega, by first | trivial | omega, by first | trivial | omega, by first | trivial | omega⟩⟩)⟩
      · rw [hc7]
        refine go_to (k := 1) (pc' := 44) (L' := [some (.inr (.inr (some 79))), some (.inl 1)]) (st' := [.inr (.inr (some 79))]) (w' := (SH, dt)) (fun _ => rfl) ?_
        refine go_call (Q' := _) rfl rfl rfl rfl rfl (sp_X6_next0 L xs sio (d + 2) dt hI   (by first | trivial | omega)) ?_
        rintro _ _ ⟨dt72, rfl, hI73, hF74, h71⟩
        refine ⟨rfl, ?_⟩
        have hF75 : Fr [79, 82] dt dt72 := Fr_tr hF hF74 (by decide)
        have E8476 : dt72 84 = dt 84 := funext (hF74 84 (by decide))
        rcases h71 with ⟨rfl, h71⟩
        obtain ⟨h71_0, h71_1, h71_2, h71_3, h71_4, h71_5, h71_6, h71_7, h71_8⟩ := h71
        have BL77 : ∀ j : Nat, (j : Int) < 5 * dt 79 10 → dt72 82 j = dt 82 j := fun j hj => (hF74 82 (by decide) j).trans ((fun _ _ => rfl) j hj)
        have y78 : dt72 82 ((5 * (dt 79 10))).toNat = dt 82 ((5 * (dt 79 10))).toNat := hF74 82 (by decide) _
        have y79 : dt72 82 ((5 * (dt 79 10)) + 1).toNat = dt 82 ((5 * (dt 79 10)) + 1).toNat := hF74 82 (by decide) _
        have y80 : dt72 82 ((5 * (dt 79 10)) + 2).toNat = dt 82 ((5 * (dt 79 10)) + 2).toNat := hF74 82 (by decide) _
        have y81 : dt72 82 ((5 * (dt 79 10)) + 3).toNat = dt 82 ((5 * (dt 79 10)) + 3).toNat := hF74 82 (by decide) _
        have y82 : dt72 82 ((5 * (dt 79 10)) + 4).toNat = dt 82 ((5 * (dt 79 10)) + 4).toNat := hF74 82 (by decide) _
        have r83 : 0 ≤ dt72 79 10 ∧ dt72 79 10 ≤ 24 := InvC_get hI73 79 10 rfl rfl
        refine go_to (k := 7) (pc' := 58) (L' := [some (.inr (.inr (some 79))), some (.inl 1)]) (st' := [.inl 1, .inl (5 * (dt72 79 10)), .inr (.inr (some 82))]) (w' := (SH, dt72)) (fun _ => rfl) ?_
        have hI84 : InvC (u2 dt72 82 ((5 * (dt72 79 10)).toNat) 1) := InvC_u2 hI73 (lo := -2147483648) (hi := 2147483647) rfl rfl rfl (by omega) (by omega)
        have hF85 : Fr [79, 82] dt (u2 dt72 82 ((5 * (dt72 79 10)).toNat) 1) := Fr_u2 hF75 (by decide)
        have w86 : (u2 dt72 82 ((5 * (dt72 79 10)).toNat) 1) 79 2 = dt72 79 2 := rfl
        have w87 : (u2 dt72 82 ((5 * (dt72 79 10)).toNat) 1) 79 9 = dt72 79 9 := rfl
        have w88 : (u2 dt72 82 ((5 * (dt72 79 10)).toNat) 1) 79 10 = dt72 79 10 := rfl
        have w89 : (u2 dt72 82 ((5 * (dt72 79 10)).toNat) 1) 79 11 = dt72 79 11 := rfl
        have w90 : (u2 dt72 82 ((5 * (dt72 79 10)).toNat) 1) 79 12 = dt72 79 12 := rfl
        have w91 : (u2 dt72 82 ((5 * (dt72 79 10)).toNat) 1) 79 13 = dt72 79 13 := rfl
        have w92 : (u2 dt72 82 ((5 * (dt72 79 10)).toNat) 1) 79 14 = dt72 79 14 := rfl
        have w93 : (u2 dt72 82 ((5 * (dt72 79 10)).toNat) 1) 79 15 = dt72 79 15 := rfl
        have w94 : (u2 dt72 82 ((5 * (dt72 79 10)).toNat) 1) 79 16 = dt72 79 16 := rfl
        have w95 : (u2 dt72 82 ((5 * (dt72 79 10)).toNat) 1) 79 20 = dt72 79 20 := rfl
        have E8496 : (u2 dt72 82 ((5 * (dt72 79 10)).toNat) 1) 84 = dt 84 := (funext fun _ => u2_ne (by omega)).trans E8476
        have ex98 : ((5 * (dt 79 10))).toNat = (5 * (dt72 79 10)).toNat := by omega
        have BL97 : ∀ j : Nat, (j : Int) < 5 * dt 79 10 → (u2 dt72 82 ((5 * (dt72 79 10)).toNat) 1) 82 j = dt 82 j := fun j hj => (u2_ne (by omega)).trans (BL77 j hj)
        have y99 : (u2 dt72 82 ((5 * (dt72 79 10)).toNat) 1) 82 ((5 * (dt 79 10))).toNat = 1 := by rw [ex98]; exact u2_eq
        have y100 : (u2 dt72 82 ((5 * (dt72 79 10)).toNat) 1) 82 ((5 * (dt 79 10)) + 1).toNat = dt72 82 ((5 * (dt 79 10)) + 1).toNat := u2_ne (by omega)
        have y101 : (u2 dt72 82 ((5 * (dt72 79 10)).toNat) 1) 82 ((5 * (dt 79 10)) + 2).toNat = dt72 82 ((5 * (dt 79 10)) + 2).toNat := u2_ne (by omega)
        have y102 : (u2 dt72 82 ((5 * (dt72 79 10)).toNat) 1) 82 ((5 * (dt 79 10)) + 3).toNat = dt72 82 ((5 * (dt 79 10)) + 3).toNat := u2_ne (by omega)
        have y103 : (u2 dt72 82 ((5 * (dt72 79 10)).toNat) 1) 82 ((5 * (dt 79 10)) + 4).toNat = dt72 82 ((5 * (dt 79 10)) + 4).toNat := u2_ne (by omega)
        refine go_smp (L' := [some (.inr (.inr (some 79))), some (.inl 1)]) (st' := []) (w' := (SH, (u2 dt72 82 ((5 * (dt72 79 10)).toNat) 1))) rfl rfl (s_iast (n := 120) rfl ⟨by omega, by omega⟩ ⟨by omega, by omega⟩) ?_
        refine go_to (k := 6) (pc' := 72) (L' := [some (.inr (.inr (some 79))), some (.inl 1)]) (st' := [.inl 3, .inl 1, .inr (.inr (some 79))]) (w' := (SH, (u2 dt72 82 ((5 * (dt72 79 10)).toNat) 1))) (fun _ => rfl) ?_
        refine go_call (Q' := _) rfl rfl rfl rfl rfl (sp_X6_argument L xs sio (d + 0) (u2 dt72 82 ((5 * (dt72 79 10)).toNat) 1) hI84  1 ⟨by omega, by omega⟩ 3 ⟨by omega, by omega⟩ (by first | trivial | omega) (by first | trivial | omega)) ?_
        rintro _ _ ⟨dt105, rfl, hI106, hF107, h104⟩
        refine ⟨rfl, ?_⟩
        have hF108 : Fr [79, 82] dt dt105 := Fr_tr hF85 hF107 (by decide)
        have E84109 : dt105 84 = dt 84 := (funext (hF107 84 (by decide))).trans E8496
        rcases h104 with ⟨rfl, h104⟩ | ⟨rfl, h104⟩
        · skip
          obtain ⟨h104_0, h104_1, h104_2, h104_3⟩ := h104
          refine go_ret (k := 3) (r := some (.inl 0)) (w1 := (SH, dt105)) (fun _ => rfl) ?_
          exact ⟨dt105, rfl, hI106, hF108, (Or.inl ⟨rfl, ⟨by first | trivial | omega, by first | trivial | omega, by first | trivial | omega⟩⟩)⟩
        · skip
          obtain ⟨h104_0, h104_1, h104_2, h104_3, h104_4, h104_5, h104_6, h104_7, h104_8, h104_9, h104_10⟩ := h104
          have BL110 : ∀ j : Nat, (j : Int) < 5 * dt 79 10 → dt105 82 j = dt 82 j := fun j hj => (h104_0 j (by omega)).trans (BL97 j hj)
          have y111 : dt105 82 ((5 * (dt 79 10))).toNat = (u2 dt72 82 ((5 * (dt72 79 10)).toNat) 1) 82 ((5 * (dt 79 10))).toNat := h104_0 ((5 * (dt 79 10))).toNat (by omega)
          have y112 : dt105 82 ((5 * (dt 79 10)) + 2).toNat = (u2 dt72 82 ((5 * (dt72 79 10)).toNat) 1) 82 ((5 * (dt 79 10)) + 2).toNat := h104_0 ((5 * (dt 79 10)) + 2).toNat (by omega)
          have y113 : dt105 82 ((5 * (dt 79 10)) + 3).toNat = (u2 dt72 82 ((5 * (dt72 79 10)).toNat) 1) 82 ((5 * (dt 79 10)) + 3).toNat := h104_0 ((5 * (dt 79 10)) + 3).toNat (by omega)
          have y114 : dt105 82 ((5 * (dt 79 10)) + 4).toNat = (u2 dt72 82 ((5 * (dt72 79 10)).toNat) 1) 82 ((5 * (dt 79 10)) + 4).toNat := h104_0 ((5 * (dt 79 10)) + 4).toNat (by omega)
          have y115 := h104_1 ((5 * (dt 79 10)) + 1) (by omega)
          refine go_to (k := 30) (pc' := 208) (L' := [some (.inr (.inr (some 79))), some (.inl 1)]) (st' := [.inl 159, .inr (.inr (some 79))]) (w' := (SH, dt105)) (fun _ => rfl) ?_
          refine go_call (Q' := _) rfl rfl rfl rfl rfl (sp_X6_need0 L xs sio (d + 1) dt105 hI106  159 ⟨by omega, by omega⟩ (by first | trivial | omega)) ?_
          rintro _ _ ⟨dt117, rfl, hI118, hF119, h116⟩
          refine ⟨rfl, ?_⟩
          have hF120 : Fr [79, 82] dt dt117 := Fr_tr hF108 hF119 (by decide)
          have E84121 : dt117 84 = dt 84 := (funext (hF119 84 (by decide))).trans E84109
          rcases h116 with ⟨rfl, h116⟩ | ⟨rfl, h116⟩
          · skip
            obtain ⟨h116_0, h116_1, h116_2, h116_3⟩ := h116
            have BL122 : ∀ j : Nat, (j : Int) < 5 * dt 79 10 → dt117 82 j = dt 82 j := fun j hj => (hF119 82 (by decide) j).trans (BL110 j hj)
            have y123 : dt117 82 ((5 * (dt 79 10))).toNat = dt105 82 ((5 * (dt 79 10))).toNat := hF119 82 (by decide) _
            have y124 : dt117 82 ((5 * (dt 79 10)) + 1).toNat = dt105 82 ((5 * (dt 79 10)) + 1).toNat := hF119 82 (by decide) _
            have y125 : dt117 82 ((5 * (dt 79 10)) + 2).toNat = dt105 82 ((5 * (dt 79 10)) + 2).toNat := hF119 82 (by decide) _
            have y126 : dt117 82 ((5 * (dt 79 10)) + 3).toNat = dt105 82 ((5 * (dt 79 10)) + 3).toNat := hF119 82 (by decide) _
            have y127 : dt117 82 ((5 * (dt 79 10)) + 4).toNat = dt105 82 ((5 * (dt 79 10)) + 4).toNat := hF119 82 (by decide) _
            refine go_ret (k := 1) (r := some (.inl 0)) (w1 := (SH, dt117)) (fun _ => rfl) ?_
            exact ⟨dt117, rfl, hI118, hF120, (Or.inl ⟨rfl, ⟨by first | trivial | omega, by first | trivial | omega, by first | trivial | omega⟩⟩)⟩
          · skip
            obtain ⟨h116_0, h116_1, h116_2, h116_3, h116_4, h116_5, h116_6, h116_7, h116_8⟩ := h116
            have BL128 : ∀ j : Nat, (j : Int) < 5 * dt 79 10 → dt117 82 j = dt 82 j := fun j hj => (hF119 82 (by decide) j).trans (BL110 j hj)
            have y129 : dt117 82 ((5 * (dt 79 10))).toNat = dt105 82 ((5 * (dt 79 10))).toNat := hF119 82 (by decide) _
            have y130 : dt117 82 ((5 * (dt 79 10)) + 1).toNat = dt105 82 ((5 * (dt 79 10)) + 1).toNat := hF119 82 (by decide) _
            have y131 : dt117 82 ((5 * (dt 79 10)) + 2).toNat = dt105 82 ((5 * (dt 79 10)) + 2).toNat := hF119 82 (by decide) _
            have y132 : dt117 82 ((5 * (dt 79 10)) + 3).toNat = dt105 82 ((5 * (dt 79 10)) + 3).toNat := hF119 82 (by decide) _
            have y133 : dt117 82 ((5 * (dt 79 10)) + 4).toNat = dt105 82 ((5 * (dt 79 10)) + 4).toNat := hF119 82 (by decide) _
            refine go_ret (k := 1) (r := some (.inl 1)) (w1 := (SH, dt117)) (fun _ => rfl) ?_
            exact ⟨dt117, rfl, hI118, hF120, (Or.inr ⟨rfl, ⟨by first | trivial | omega, by exact BL128, by unfold aOK; omega, by first | trivial | omega, by first | trivial | omega, by exact (InvC_get (by assumption) 79 15 rfl rfl).2, by first | trivial | omega, by first | trivial | omega, by first | trivial | omega, by first | trivial | omega, by first | trivial | omega⟩⟩)⟩
      · rw [hc7]
        refine go_to (k := 1) (pc' := 44) (L' := [some (.inr (.inr (some 79))), some (.inl 2)]) (st' := [.inr (.inr (some 79))]) (w' := (SH, dt)) (fun _ => rfl) ?_
        refine go_call (Q' := _) rfl rfl rfl rfl rfl (sp_X6_next0 L xs sio (d + 2) dt hI   (by first | trivial | omega)) ?_
        rintro _ _ ⟨dt135, rfl, hI136, hF137, h134⟩
        refine ⟨rfl, ?_⟩
        have hF138 : Fr [79, 82] dt dt135 := Fr_tr hF hF137 (by decide)
        have E84139 : dt135 84 = dt 84 := funext (hF137 84 (by decide))
        rcases h134 with ⟨rfl, h134⟩
        obtain ⟨h134_0, h134_1, h134_2, h134_3, h134_4, h134_5, h134_6, h134_7, h134_8⟩ := h134
        have BL140 : ∀ j : Nat, (j : Int) < 5 * dt 79 10 → dt135 82 j = dt 82 j := fun j hj => (hF137 82 (by decide) j).trans ((fun _ _ => rfl) j hj)
        have y141 : dt135 82 ((5 * (dt 79 10))).toNat = dt 82 ((5 * (dt 79 10))).toNat := hF137 82 (by decide) _
        have y142 : dt135 82 ((5 * (dt 79 10)) + 1).toNat = dt 82 ((5 * (dt 79 10)) + 1).toNat := hF137 82 (by decide) _
        have y143 : dt135 82 ((5 * (dt 79 10)) + 2).toNat = dt 82 ((5 * (dt 79 10)) + 2).toNat := hF137 82 (by decide) _
        have y144 : dt135 82 ((5 * (dt 79 10)) + 3).toNat = dt 82 ((5 * (dt 79 10)) + 3).toNat := hF137 82 (by decide) _
        have y145 : dt135 82 ((5 * (dt 79 10)) + 4).toNat = dt 82 ((5 * (dt 79 10)) + 4).toNat := hF137 82 (by decide) _
        have r146 : 0 ≤ dt135 79 10 ∧ dt135 79 10 ≤ 24 := InvC_get hI136 79 10 rfl rfl
        refine go_to (k := 7) (pc' := 58) (L' := [some (.inr (.inr (some 79))), some (.inl 2)]) (st' := [.inl 2, .inl (5 * (dt135 79 10)), .inr (.inr (some 82))]) (w' := (SH, dt135)) (fun _ => rfl) ?_
        have hI147 : InvC (u2 dt135 82 ((5 * (dt135 79 10)).toNat) 2) := InvC_u2 hI136 (lo := -2147483648) (hi := 2147483647) rfl rfl rfl (by omega) (by omega)
        have hF148 : Fr [79, 82] dt (u2 dt135 82 ((5 * (dt135 79 10)).toNat) 2) := Fr_u2 hF138 (by decide)
        have w149 : (u2 dt135 82 ((5 * (dt135 79 10)).toNat) 2) 79 2 = dt135 79 2 := rfl
        have w150 : (u2 dt135 82 ((5 * (dt135 79 10)).toNat) 2) 79 9 = dt135 79 9 := rfl
        have w151 : (u2 dt135 82 ((5 * (dt135 79 10)).toNat) 2) 79 10 = dt135 79 10 := rfl
        have w152 : (u2 dt135 82 ((5 * (dt135 79 10)).toNat) 2) 79 11 = dt135 79 11 := rfl
        have w153 : (u2 dt135 82 ((5 * (dt135 79 10)).toNat) 2) 79 12 = dt135 79 12 := rfl
        have w154 : (u2 dt135 82 ((5 * (dt135 79 10)).toNat) 2) 79 13 = dt135 79 13 := rfl
        have w155 : (u2 dt135 82 ((5 * (dt135 79 10)).toNat) 2) 79 14 = dt135 79 14 := rfl
        have w156 : (u2 dt135 82 ((5 * (dt135 79 10)).toNat) 2) 79 15 = dt135 79 15 := rfl
        have w157 : (u2 dt135 82 ((5 * (dt135 79 10)).toNat) 2) 79 16 = dt135 79 16 := rfl
        have w158 : (u2 dt135 82 ((5 * (dt135 79 10)).toNat) 2) 79 20 = dt135 79 20 := rfl
        have E84159 : (u2 dt135 82 ((5 * (dt135 79 10)).toNat) 2) 84 = dt 84 := (funext fun _ => u2_ne (by omega)).trans E84139
        have ex161 : ((5 * (dt 79 10))).toNat = (5 * (dt135 79 10)).toNat := by omega
        have BL160 : ∀ j : Nat, (j : Int) < 5 * dt 79 10 → (u2 dt135 82 ((5 * (dt135 79 10)).toNat) 2) 82 j = dt 82 j := fun j hj => (u2_ne (by omega)).trans (BL140 j hj)
        have y162 : (u2 dt135 82 ((5 * (dt135 79 10)).toNat) 2) 82 ((5 * (dt 79 10))).toNat = 2 := by rw [ex161]; exact u2_eq
        have y163 : (u2 dt135 82 ((5 * (dt135 79 10)).toNat) 2) 82 ((5 * (dt 79 10)) + 1).toNat = dt135 82 ((5 * (dt 79 10)) + 1).toNat := u2_ne (by omega)
        have y164 : (u2 dt135 82 ((5 * (dt135 79 10)).toNat) 2) 82 ((5 * (dt 79 10)) + 2).toNat = dt135 82 ((5 * (dt 79 10)) + 2).toNat := u2_ne (by omega)
        have y165 : (u2 dt135 82 ((5 * (dt135 79 10)).toNat) 2) 82 ((5 * (dt 79 10)) + 3).toNat = dt135 82 ((5 * (dt 79 10)) + 3).toNat := u2_ne (by omega)
        have y166 : (u2 dt135 82 ((5 * (dt135 79 10)).toNat) 2) 82 ((5 * (dt 79 10)) + 4).toNat = dt135 82 ((5 * (dt 79 10)) + 4).toNat := u2_ne (by omega)
        refine go_smp (L' := [some (.inr (.inr (some 79))), some (.inl 2)]) (st' := []) (w' := (SH, (u2 dt135 82 ((5 * (dt135 79 10)).toNat) 2))) rfl rfl (s_iast (n := 120) rfl ⟨by omega, by omega⟩ ⟨by omega, by omega⟩) ?_
        refine go_to (k := 6) (pc' := 72) (L' := [some (.inr (.inr (some 79))), some (.inl 2)]) (st' := [.inl 3, .inl 1, .inr (.inr (some 79))]) (w' := (SH, (u2 dt135 82 ((5 * (dt135 79 10)).toNat) 2))) (fun _ => rfl) ?_
        refine go_call (Q' := _) rfl rfl rfl rfl rfl (sp_X6_argument L xs sio (d + 0) (u2 dt135 82 ((5 * (dt135 79 10)).toNat) 2) hI147  1 ⟨by omega, by omega⟩ 3 ⟨by omega, by omega⟩ (by first | trivial | omega) (by first | trivial | omega)) ?_
        rintro _ _ ⟨dt168, rfl, hI169, hF170, h167⟩
        refine ⟨rfl, ?_⟩
        have hF171 : Fr [79, 82] dt dt168 := Fr_tr hF148 hF170 (by decide)
        have E84172 : dt168 84 = dt 84 := (funext (hF170 84 (by decide))).trans E84159
        rcases h167 with ⟨rfl, h167⟩ | ⟨rfl, h167⟩
        · skip
          obtain ⟨h167_0, h167_1, h167_2, h167_3⟩ := h167
          refine go_ret (k := 3) (r := some (.inl 0)) (w1 := (SH, dt168)) (fun _ => rfl) ?_
          exact ⟨dt168, rfl, hI169, hF171, (Or.inl ⟨rfl, ⟨by first | trivial | omega, by first | trivial | omega, by first | trivial | omega⟩⟩)⟩
        · skip
          obtain ⟨h167_0, h167_1, h167_2, h167_3, h167_4, h167_5, h167_6, h167_7, h167_8, h167_9, h167_10⟩ := h167
          have BL173 : ∀ j : Nat, (j : Int) < 5 * dt 79 10 → dt168 82 j = dt 82 j := fun j hj => (h167_0 j (by omega)).trans (BL160 j hj)
          have y174 : dt168 82 ((5 * (dt 79 10))).toNat = (u2 dt135 82 ((5 * (dt135 79 10)).toNat) 2) 82 ((5 * (dt 79 10))).toNat := h167_0 ((5 * (dt 79 10))).toNat (by omega)
          have y175 : dt168 82 ((5 * (dt 79 10)) + 2).toNat = (u2 dt135 82 ((5 * (dt135 79 10)).toNat) 2) 82 ((5 * (dt 79 10)) + 2).toNat := h167_0 ((5 * (dt 79 10)) + 2).toNat (by omega)
          have y176 : dt168 82 ((5 * (dt 79 10)) + 3).toNat = (u2 dt135 82 ((5 * (dt135 79 10)).toNat) 2) 82 ((5 * (dt 79 10)) + 3).toNat := h167_0 ((5 * (dt 79 10)) + 3).toNat (by omega)
          have y177 : dt168 82 ((5 * (dt 79 10)) + 4).toNat = (u2 dt135 82 ((5 * (dt135 79 10)).toNat) 2) 82 ((5 * (dt 79 10)) + 4).toNat := h167_0 ((5 * (dt 79 10)) + 4).toNat (by omega)
          have y178 := h167_1 ((5 * (dt 79 10)) + 1) (by omega)
          refine go_to (k := 10) (pc' := 148) (L' := [some (.inr (.inr (some 79))), some (.inl 2)]) (st' := [.inl 2, .inl 2, .inr (.inr (some 79))]) (w' := (SH, dt168)) (fun _ => rfl) ?_
          refine go_call (Q' := _) rfl rfl rfl rfl rfl (sp_X6_argument L xs sio (d + 0) dt168 hI169  2 ⟨by omega, by omega⟩ 2 ⟨by omega, by omega⟩ (by first | trivial | omega) (by first | trivial | omega)) ?_
          rintro _ _ ⟨dt180, rfl, hI181, hF182, h179⟩
          refine ⟨rfl, ?_⟩
          have hF183 : Fr [79, 82] dt dt180 := Fr_tr hF171 hF182 (by decide)
          have E84184 : dt180 84 = dt 84 := (funext (hF182 84 (by decide))).trans E84172
          rcases h179 with ⟨rfl, h179⟩ | ⟨rfl, h179⟩
          · skip
            obtain ⟨h179_0, h179_1, h179_2, h179_3⟩ := h179
            refine go_ret (k := 3) (r := some (.inl 0)) (w1 := (SH, dt180)) (fun _ => rfl) ?_
            exact ⟨dt180, rfl, hI181, hF183, (Or.inl ⟨rfl, ⟨by first | trivial | omega, by first | trivial | omega, by first | trivial | omega⟩⟩)⟩
          · skip
            obtain ⟨h179_0, h179_1, h179_2, h179_3, h179_4, h179_5, h179_6, h179_7, h179_8, h179_9, h179_10⟩ := h179
            have BL185 : ∀ j : Nat, (j : Int) < 5 * dt 79 10 → dt180 82 j = dt 82 j := fun j hj => (h179_0 j (by omega)).trans (BL173 j hj)
            have y186 : dt180 82 ((5 * (dt 79 10))).toNat = dt168 82 ((5 * (dt 79 10))).toNat := h179_0 ((5 * (dt 79 10))).toNat (by omega)
            have y187 : dt180 82 ((5 * (dt 79 10)) + 1).toNat = dt168 82 ((5 * (dt 79 10)) + 1).toNat := h179_0 ((5 * (dt 79 10)) + 1).toNat (by omega)
            have y188 : dt180 82 ((5 * (dt 79 10)) + 3).toNat = dt168 82 ((5 * (dt 79 10)) + 3).toNat := h179_0 ((5 * (dt 79 10)) + 3).toNat (by omega)
            have y189 : dt180 82 ((5 * (dt 79 10)) + 4).toNat = dt168 82 ((5 * (dt 79 10)) + 4).toNat := h179_0 ((5 * (dt 79 10)) + 4).toNat (by omega)
            have y190 := h179_1 ((5 * (dt 79 10)) + 2) (by omega)
            refine go_to (k := 7) (pc' := 179) (L' := [some (.inr (.inr (some 79))), some (.inl 2)]) (st' := [.inl 3, .inl 3, .inr (.inr (some 79))]) (w' := (SH, dt180)) (fun _ => rfl) ?_
            refine go_call (Q' := _) rfl rfl rfl rfl rfl (sp_X6_argument L xs sio (d + 0) dt180 hI181  3 ⟨by omega, by omega⟩ 3 ⟨by omega, by omega⟩ (by first | trivial | omega) (by first | trivial | omega)) ?_
            rintro _ _ ⟨dt192, rfl, hI193, hF194, h191⟩
            refine ⟨rfl, ?_⟩
            have hF195 : Fr [79, 82] dt dt192 := Fr_tr hF183 hF194 (by decide)
            have E84196 : dt192 84 = dt 84 := (funext (hF194 84 (by decide))).trans E84184
            rcases h191 with ⟨rfl, h191⟩ | ⟨rfl, h191⟩
            · skip
              obtain ⟨h191_0, h191_1, h191_2, h191_3⟩ := h191
              refine go_ret (k := 3) (r := some (.inl 0)) (w1 := (SH, dt192)) (fun _ => rfl) ?_
              exact ⟨dt192, rfl, hI193, hF195, (Or.inl ⟨rfl, ⟨by first | trivial | omega, by first | trivial | omega, by first | trivial | omega⟩⟩)⟩
            · skip
              obtain ⟨h191_0, h191_1, h191_2, h191_3, h191_4, h191_5, h191_6, h191_7, h191_8, h191_9, h191_10⟩ := h191
              have BL197 : ∀ j : Nat, (j : Int) < 5 * dt 79 10 → dt192 82 j = dt 82 j := fun j hj => (h191_0 j (by omega)).trans (BL185 j hj)
              have y198 : dt192 82 ((5 * (dt 79 10))).toNat = dt180 82 ((5 * (dt 79 10))).toNat := h191_0 ((5 * (dt 79 10))).toNat (by omega)
              have y199 : dt192 82 ((5 * (dt 79 10)) + 1).toNat = dt180 82 ((5 * (dt 79 10)) + 1).toNat := h191_0 ((5 * (dt 79 10)) + 1).toNat (by omega)
              have y200 : dt192 82 ((5 * (dt 79 10)) + 2).toNat = dt180 82 ((5 * (dt 79 10)) + 2).toNat := h191_0 ((5 * (dt 79 10)) + 2).toNat (by omega)
              have y201 : dt192 82 ((5 * (dt 79 10)) + 4).toNat = dt180 82 ((5 * (dt 79 10)) + 4).toNat := h191_0 ((5 * (dt 79 10)) + 4).toNat (by omega)
              have y202 := h191_1 ((5 * (dt 79 10)) + 3) (by omega)
              refine go_to (k := 6) (pc' := 208) (L' := [some (.inr (.inr (some 79))), some (.inl 2)]) (st' := [.inl 159, .inr (.inr (some 79))]) (w' := (SH, dt192)) (fun _ => rfl) ?_
              refine go_call (Q' := _) rfl rfl rfl rfl rfl (sp_X6_need0 L xs sio (d + 1) dt192 hI193  159 ⟨by omega, by omega⟩ (by first | trivial | omega)) ?_
              rintro _ _ ⟨dt204, rfl, hI205, hF206, h203⟩
              refine ⟨rfl, ?_⟩
              have hF207 : Fr [79, 82] dt dt204 := Fr_tr hF195 hF206 (by decide)
              have E84208 : dt204 84 = dt 84 := (funext (hF206 84 (by decide))).trans E84196
              rcases h203 with ⟨rfl, h203⟩ | ⟨rfl, h203⟩
              · skip
                obtain ⟨h203_0, h203_1, h203_2, h203_3⟩ := h203
                have BL209 : ∀ j : Nat, (j : Int) < 5 * dt 79 10 → dt204 82 j = dt 82 j := fun j hj => (hF206 82 (by decide) j).trans (BL197 j hj)
                have y210 : dt204 82 ((5 * (dt 79 10))).toNat = dt192 82 ((5 * (dt 79 10))).toNat := hF206 82 (by decide) _
                have y211 : dt204 82 ((5 * (dt 79 10)) + 1).toNat = dt192 82 ((5 * (dt 79 10)) + 1).toNat := hF206 82 (by decide) _
                have y212 : dt204 82 ((5 * (dt 79 10)) + 2).toNat = dt192 82 ((5 * (dt 79 10)) + 2).toNat := hF206 82 (by decide) _
                have y213 : dt204 82 ((5 * (dt 79 10)) + 3).toNat = dt192 82 ((5 * (dt 79 10)) + 3).toNat := hF206 82 (by decide) _
                have y214 : dt204 82 ((5 * (dt 79 10)) + 4).toNat = dt192 82 ((5 * (dt 79 10)) + 4).toNat := hF206 82 (by decide) _
                refine go_ret (k := 1) (r := some (.inl 0)) (w1 := (SH, dt204)) (fun _ => rfl) ?_
                exact ⟨dt204, rfl, hI205, hF207, (Or.inl ⟨rfl, ⟨by first | trivial | omega, by first | trivial | omega, by first | trivial | omega⟩⟩)⟩
              · skip
                obtain ⟨h203_0, h203_1, h203_2, h203_3, h203_4, h203_5, h203_6, h203_7, h203_8⟩ := h203
                have BL215 : ∀ j : Nat, (j : Int) < 5 * dt 79 10 → dt204 82 j = dt 82 j := fun j hj => (hF206 82 (by decide) j).trans (BL197 j hj)
                have y216 : dt204 82 ((5 * (dt 79 10))).toNat = dt192 82 ((5 * (dt 79 10))).toNat := hF206 82 (by decide) _
                have y217 : dt204 82 ((5 * (dt 79 10)) + 1).toNat = dt192 82 ((5 * (dt 79 10)) + 1).toNat := hF206 82 (by decide) _
                have y218 : dt204 82 ((5 * (dt 79 10)) + 2).toNat = dt192 82 ((5 * (dt 79 10)) + 2).toNat := hF206 82 (by decide) _
                have y219 : dt204 82 ((5 * (dt 79 10)) + 3).toNat = dt192 82 ((5 * (dt 79 10)) + 3).toNat := hF206 82 (by decide) _
                have y220 : dt204 82 ((5 * (dt 79 10)) + 4).toNat = dt192 82 ((5 * (dt 79 10)) + 4).toNat := hF206 82 (by decide) _
                refine go_ret (k := 1) (r := some (.inl 1)) (w1 := (SH, dt204)) (fun _ => rfl) ?_
                exact ⟨dt204, rfl, hI205, hF207, (Or.inr ⟨rfl, ⟨by first | trivial | omega, by exact BL215, by unfold aOK; omega, by first | trivial | omega, by first | trivial | omega, by exact (InvC_get (by assumption) 79 15 rfl rfl).2, by first | trivial | omega, by first | trivial | omega, by first | trivial | omega, by first | trivial | omega, by first | trivial | omega⟩⟩)⟩
      · rw [hc7]
        refine go_to (k := 1) (pc' := 44) (L' := [some (.inr (.inr (some 79))), some (.inl 3)]) (st' := [.inr (.inr (some 79))]) (w' := (SH, dt)) (fun _ => rfl) ?_
        refine go_call (Q' := _) rfl rfl rfl rfl rfl (sp_X6_next0 L xs sio (d + 2) dt hI   (by first | trivial | omega)) ?_
        rintro _ _ ⟨dt222, rfl, hI223, hF224, h221⟩
        refine ⟨rfl, ?_⟩
        have hF225 : Fr [79, 82] dt dt222 := Fr_tr hF hF224 (by decide)
        have E84226 : dt222 84 = dt 84 := funext (hF224 84 (by decide))
        rcases h221 with ⟨rfl, h221⟩
        obtain ⟨h221_0, h221_1, h221_2, h221_3, h221_4, h221_5, h221_6, h221_7, h221_8⟩ := h221
        have BL227 : ∀ j : Nat, (j : Int) < 5 * dt 79 10 → dt222 82 j = dt 82 j := fun j hj => (hF224 82 (by decide) j).trans ((fun _ _ => rfl) j hj)
        have y228 : dt222 82 ((5 * (dt 79 10))).toNat = dt 82 ((5 * (dt 79 10))).toNat := hF224 82 (by decide) _
        have y229 : dt222 82 ((5 * (dt 79 10)) + 1).toNat = dt 82 ((5 * (dt 79 10)) + 1).toNat := hF224 82 (by decide) _
        have y230 : dt222 82 ((5 * (dt 79 10)) + 2).toNat = dt 82 ((5 * (dt 79 10)) + 2).toNat := hF224 82 (by decide) _
        have y231 : dt222 82 ((5 * (dt 79 10)) + 3).toNat = dt 82 ((5 * (dt 79 10)) + 3).toNat := hF224 82 (by decide) _
        have y232 : dt222 82 ((5 * (dt 79 10)) + 4).toNat = dt 82 ((5 * (dt 79 10)) + 4).toNat := hF224 82 (by decide) _
        have r233 : 0 ≤ dt222 79 10 ∧ dt222 79 10 ≤ 24 := InvC_get hI223 79 10 rfl rfl
        refine go_to (k := 7) (pc' := 58) (L' := [some (.inr (.inr (some 79))), some (.inl 3)]) (st' := [.inl 3, .inl (5 * (dt222 79 10)), .inr (.inr (some 82))]) (w' := (SH, dt222)) (fun _ => rfl) ?_
        have hI234 : InvC (u2 dt222 82 ((5 * (dt222 79 10)).toNat) 3) := InvC_u2 hI223 (lo := -2147483648) (hi := 2147483647) rfl rfl rfl (by omega) (by omega)
        have hF235 : Fr [79, 82] dt (u2 dt222 82 ((5 * (dt222 79 10)).toNat) 3) := Fr_u2 hF225 (by decide)
        have w236 : (u2 dt222 82 ((5 * (dt222 79 10)).toNat) 3) 79 2 = dt222 79 2 := rfl
        have w237 : (u2 dt222 82 ((5 * (dt222 79 10)).toNat) 3) 79 9 = dt222 79 9 := rfl
        have w238 : (u2 dt222 82 ((5 * (dt222 79 10)).toNat) 3) 79 10 = dt222 79 10 := rfl
        have w239 : (u2 dt222 82 ((5 * (dt222 79 10)).toNat) 3) 79 11 = dt222 79 11 := rfl
        have w240 : (u2 dt222 82 ((5 * (dt222 79 10)).toNat) 3) 79 12 = dt222 79 12 := rfl
        have w241 : (u2 dt222 82 ((5 * (dt222 79 10)).toNat) 3) 79 13 = dt222 79 13 := rfl
        have w242 : (u2 dt222 82 ((5 * (dt222 79 10)).toNat) 3) 79 14 = dt222 79 14 := rfl
        have w243 : (u2 dt222 82 ((5 * (dt222 79 10)).toNat) 3) 79 15 = dt222 79 15 := rfl
        have w244 : (u2 dt222 82 ((5 * (dt222 79 10)).toNat) 3) 79 16 = dt222 79 16 := rfl
        have w245 : (u2 dt222 82 ((5 * (dt222 79 10)).toNat) 3) 79 20 = dt222 79 20 := rfl
        have E84246 : (u2 dt222 82 ((5 * (dt222 79 10)).toNat) 3) 84 = dt 84 := (funext fun _ => u2_ne (by omega)).trans E84226
        have ex248 : ((5 * (dt 79 10))).toNat = (5 * (dt222 79 10)).toNat := by omega
        have BL247 : ∀ j : Nat, (j : Int) < 5 * dt 79 10 → (u2 dt222 82 ((5 * (dt222 79 10)).toNat) 3) 82 j = dt 82 j := fun j hj => (u2_ne (by omega)).trans (BL227 j hj)
        have y249 : (u2 dt222 82 ((5 * (dt222 79 10)).toNat) 3) 82 ((5 * (dt 79 10))).toNat = 3 := by rw [ex248]; exact u2_eq
        have y250 : (u2 dt222 82 ((5 * (dt222 79 10)).toNat) 3) 82 ((5 * (dt 79 10)) + 1).toNat = dt222 82 ((5 * (dt 79 10)) + 1).toNat := u2_ne (by omega)
        have y251 : (u2 dt222 82 ((5 * (dt222 79 10)).toNat) 3) 82 ((5 * (dt 79 10)) + 2).toNat = dt222 82 ((5 * (dt 79 10)) + 2).toNat := u2_ne (by omega)
        have y252 : (u2 dt222 82 ((5 * (dt222 79 10)).toNat) 3) 82 ((5 * (dt 79 10)) + 3).toNat = dt222 82 ((5 * (dt 79 10)) + 3).toNat := u2_ne (by omega)
        have y253 : (u2 dt222 82 ((5 * (dt222 79 10)).toNat) 3) 82 ((5 * (dt 79 10)) + 4).toNat = dt222 82 ((5 * (dt 79 10)) + 4).toNat := u2_ne (by omega)
        refine go_smp (L' := [some (.inr (.inr (some 79))), some (.inl 3)]) (st' := []) (w' := (SH, (u2 dt222 82 ((5 * (dt222 79 10)).toNat) 3))) rfl rfl (s_iast (n := 120) rfl ⟨by omega, by omega⟩ ⟨by omega, by omega⟩) ?_
        refine go_to (k := 6) (pc' := 72) (L' := [some (.inr (.inr (some 79))), some (.inl 3)]) (st' := [.inl 3, .inl 1, .inr (.inr (some 79))]) (w' := (SH, (u2 dt222 82 ((5 * (dt222 79 10)).toNat) 3))) (fun _ => rfl) ?_
        refine go_call (Q' := _) rfl rfl rfl rfl rfl (sp_X6_argument L xs sio (d + 0) (u2 dt222 82 ((5 * (dt222 79 10)).toNat) 3) hI234  1 ⟨by omega, by omega⟩ 3 ⟨by omega, by omega⟩ (by first | trivial | omega) (by first | trivial | omega)) ?_
        rintro _ _ ⟨dt255, rfl, hI256, hF257, h254⟩
        refine ⟨rfl, ?_⟩
        have hF258 : Fr [79, 82] dt dt255 := Fr_tr hF235 hF257 (by decide)
        have E84259 : dt255 84 = dt 84 := (funext (hF257 84 (by decide))).trans E84246
        rcases h254 with ⟨rfl, h254⟩ | ⟨rfl, h254⟩
        · skip
          obtain ⟨h254_0, h254_1, h254_2, h254_3⟩ := h254
          refine go_ret (k := 3) (r := some (.inl 0)) (w1 := (SH, dt255)) (fun _ => rfl) ?_
          exact ⟨dt255, rfl, hI256, hF258, (Or.inl ⟨rfl, ⟨by first | trivial | omega, by first | trivial | omega, by first | trivial | omega⟩⟩)⟩
        · skip
          obtain ⟨h254_0, h254_1, h254_2, h254_3, h254_4, h254_5, h254_6, h254_7, h254_8, h254_9, h254_10⟩ := h254
          have BL260 : ∀ j : Nat, (j : Int) < 5 * dt 79 10 → dt255 82 j = dt 82 j := fun j hj => (h254_0 j (by omega)).trans (BL247 j hj)
          have y261 : dt255 82 ((5 * (dt 79 10))).toNat = (u2 dt222 82 ((5 * (dt222 79 10)).toNat) 3) 82 ((5 * (dt 79 10))).toNat := h254_0 ((5 * (dt 79 10))).toNat (by omega)
          have y262 : dt255 82 ((5 * (dt 79 10)) + 2).toNat = (u2 dt222 82 ((5 * (dt222 79 10)).toNat) 3) 82 ((5 * (dt 79 10)) + 2).toNat := h254_0 ((5 * (dt 79 10)) + 2).toNat (by omega)
          have y263 : dt255 82 ((5 * (dt 79 10)) + 3).toNat = (u2 dt222 82 ((5 * (dt222 79 10)).toNat) 3) 82 ((5 * (dt 79 10)) + 3).toNat := h254_0 ((5 * (dt 79 10)) + 3).toNat (by omega)
          have y264 : dt255 82 ((5 * (dt 79 10)) + 4).toNat = (u2 dt222 82 ((5 * (dt222 79 10)).toNat) 3) 82 ((5 * (dt 79 10)) + 4).toNat := h254_0 ((5 * (dt 79 10)) + 4).toNat (by omega)
          have y265 := h254_1 ((5 * (dt 79 10)) + 1) (by omega)
          refine go_to (k := 13) (pc' := 148) (L' := [some (.inr (.inr (some 79))), some (.inl 3)]) (st' := [.inl 2, .inl 2, .inr (.inr (some 79))]) (w' := (SH, dt255)) (fun _ => rfl) ?_
          refine go_call (Q' := _) rfl rfl rfl rfl rfl (sp_X6_argument L xs sio (d + 0) dt255 hI256  2 ⟨by omega, by omega⟩ 2 ⟨by omega, by omega⟩ (by first | trivial | omega) (by first | trivial | omega)) ?_
          rintro _ _ ⟨dt267, rfl, hI268, hF269, h266⟩
          refine ⟨rfl, ?_⟩
          have hF270 : Fr [79, 82] dt dt267 := Fr_tr hF258 hF269 (by decide)
          have E84271 : dt267 84 = dt 84 := (funext (hF269 84 (by decide))).trans E84259
          rcases h266 with ⟨rfl, h266⟩ | ⟨rfl, h266⟩
          · skip
            obtain ⟨h266_0, h266_1, h266_2, h266_3⟩ := h266
            refine go_ret (k := 3) (r := some (.inl 0)) (w1 := (SH, dt267)) (fun _ => rfl) ?_
            exact ⟨dt267, rfl, hI268, hF270, (Or.inl ⟨rfl, ⟨by first | trivial | omega, by first | trivial | omega, by first | trivial | omega⟩⟩)⟩
          · skip
            obtain ⟨h266_0, h266_1, h266_2, h266_3, h266_4, h266_5, h266_6, h266_7, h266_8, h266_9, h266_10⟩ := h266
            have BL272 : ∀ j : Nat, (j : Int) < 5 * dt 79 10 → dt267 82 j = dt 82 j := fun j hj => (h266_0 j (by omega)).trans (BL260 j hj)
            have y273 : dt267 82 ((5 * (dt 79 10))).toNat = dt255 82 ((5 * (dt 79 10))).toNat := h266_0 ((5 * (dt 79 10))).toNat (by omega)
            have y274 : dt267 82 ((5 * (dt 79 10)) + 1).toNat = dt255 82 ((5 * (dt 79 10)) + 1).toNat := h266_0 ((5 * (dt 79 10)) + 1).toNat (by omega)
            have y275 : dt267 82 ((5 * (dt 79 10)) + 3).toNat = dt255 82 ((5 * (dt 79 10)) + 3).toNat := h266_0 ((5 * (dt 79 10)) + 3).toNat (by omega)
            have y276 : dt267 82 ((5 * (dt 79 10)) + 4).toNat = dt255 82 ((5 * (dt 79 10)) + 4).toNat := h266_0 ((5 * (dt 79 10)) + 4).toNat (by omega)
            have y277 := h266_1 ((5 * (dt 79 10)) + 2) (by omega)
            refine go_to (k := 10) (pc' := 179) (L' := [some (.inr (.inr (some 79))), some (.inl 3)]) (st' := [.inl 3, .inl 3, .inr (.inr (some 79))]) (w' := (SH, dt267)) (fun _ => rfl) ?_
            refine go_call (Q' := _) rfl rfl rfl rfl rfl (sp_X6_argument L xs sio (d + 0) dt267 hI268  3 ⟨by omega, by omega⟩ 3 ⟨by omega, by omega⟩ (by first | trivial | omega) (by first | trivial | omega)) ?_
            rintro _ _ ⟨dt279, rfl, hI280, hF281, h278⟩
            refine ⟨rfl, ?_⟩
            have hF282 : Fr [79, 82] dt dt279 := Fr_tr hF270 hF281 (by decide)
            have E84283 : dt279 84 = dt 84 := (funext (hF281 84 (by decide))).trans E84271
            rcases h278 with ⟨rfl, h278⟩ | ⟨rfl, h278⟩
            · skip
              obtain ⟨h278_0, h278_1, h278_2, h278_3⟩ := h278
              refine go_ret (k := 3) (r := some (.inl 0)) (w1 := (SH, dt279)) (fun _ => rfl) ?_
              exact ⟨dt279, rfl, hI280, hF282, (Or.inl ⟨rfl, ⟨by first | trivial | omega, by first | trivial | omega, by first | trivial | omega⟩⟩)⟩
            · skip
              obtain ⟨h278_0, h278_1, h278_2, h278_3, h278_4, h278_5, h278_6, h278_7, h278_8, h278_9, h278_10⟩ := h278
              have BL284 : ∀ j : Nat, (j : Int) < 5 * dt 79 10 → dt279 82 j = dt 82 j := fun j hj => (h278_0 j (by omega)).trans (BL272 j hj)
              have y285 : dt279 82 ((5 * (dt 79 10))).toNat = dt267 82 ((5 * (dt 79 10))).toNat := h278_0 ((5 * (dt 79 10))).toNat (by omega)
              have y286 : dt279 82 ((5 * (dt 79 10)) + 1).toNat = dt267 82 ((5 * (dt 79 10)) + 1).toNat := h278_0 ((5 * (dt 79 10)) + 1).toNat (by omega)
              have y287 : dt279 82 ((5 * (dt 79 10)) + 2).toNat = dt267 82 ((5 * (dt 79 10)) + 2).toNat := h278_0 ((5 * (dt 79 10)) + 2).toNat (by omega)
              have y288 : dt279 82 ((5 * (dt 79 10)) + 4).toNat = dt267 82 ((5 * (dt 79 10)) + 4).toNat := h278_0 ((5 * (dt 79 10)) + 4).toNat (by omega)
              have y289 := h278_1 ((5 * (dt 79 10)) + 3) (by omega)
              refine go_to (k := 6) (pc' := 208) (L' := [some (.inr (.inr (some 79))), some (.inl 3)]) (st' := [.inl 159, .inr (.inr (some 79))]) (w' := (SH, dt279)) (fun _ => rfl) ?_
              refine go_call (Q' := _) rfl rfl rfl rfl rfl (sp_X6_need0 L xs sio (d + 1) dt279 hI280  159 ⟨by omega, by omega⟩ (by first | trivial | omega)) ?_
              rintro _ _ ⟨dt291, rfl, hI292, hF293, h290⟩
              refine ⟨rfl, ?_⟩
              have hF294 : Fr [79, 82] dt dt291 := Fr_tr hF282 hF293 (by decide)
              have E84295 : dt291 84 = dt 84 := (funext (hF293 84 (by decide))).trans E84283
              rcases h290 with ⟨rfl, h290⟩ | ⟨rfl, h290⟩
              · skip
                obtain ⟨h290_0, h290_1, h290_2, h290_3⟩ := h290
                have BL296 : ∀ j : Nat, (j : Int) < 5 * dt 79 10 → dt291 82 j = dt 82 j := fun j hj => (hF293 82 (by decide) j).trans (BL284 j hj)
                have y297 : dt291 82 ((5 * (dt 79 10))).toNat = dt279 82 ((5 * (dt 79 10))).toNat := hF293 82 (by decide) _
                have y298 : dt291 82 ((5 * (dt 79 10)) + 1).toNat = dt279 82 ((5 * (dt 79 10)) + 1).toNat := hF293 82 (by decide) _
                have y299 : dt291 82 ((5 * (dt 79 10)) + 2).toNat = dt279 82 ((5 * (dt 79 10)) + 2).toNat := hF293 82 (by decide) _
                have y300 : dt291 82 ((5 * (dt 79 10)) + 3).toNat = dt279 82 ((5 * (dt 79 10)) + 3).toNat := hF293 82 (by decide) _
                have y301 : dt291 82 ((5 * (dt 79 10)) + 4).toNat = dt279 82 ((5 * (dt 79 10)) + 4).toNat := hF293 82 (by decide) _
                refine go_ret (k := 1) (r := some (.inl 0)) (w1 := (SH, dt291)) (fun _ => rfl) ?_
                exact ⟨dt291, rfl, hI292, hF294, (Or.inl ⟨rfl, ⟨by first | trivial | omega, by first | trivial | omega, by first | trivial | omega⟩⟩)⟩
              · skip
                obtain ⟨h290_0, h290_1, h290_2, h290_3, h290_4, h290_5, h290_6, h290_7, h290_8⟩ := h290
                have BL302 : ∀ j : Nat, (j : Int) < 5 * dt 79 10 → dt291 82 j = dt 82 j := fun j hj => (hF293 82 (by decide) j).trans (BL284 j hj)
                have y303 : dt291 82 ((5 * (dt 79 10))).toNat = dt279 82 ((5 * (dt 79 10))).toNat := hF293 82 (by decide) _
                have y304 : dt291 82 ((5 * (dt 79 10)) + 1).toNat = dt279 82 ((5 * (dt 79 10)) + 1).toNat := hF293 82 (by decide) _
                have y305 : dt291 82 ((5 * (dt 79 10)) + 2).toNat = dt279 82 ((5 * (dt 79 10)) + 2).toNat := hF293 82 (by decide) _
                have y306 : dt291 82 ((5 * (dt 79 10)) + 3).toNat = dt279 82 ((5 * (dt 79 10)) + 3).toNat := hF293 82 (by decide) _
                have y307 : dt291 82 ((5 * (dt 79 10)) + 4).toNat = dt279 82 ((5 * (dt 79 10)) + 4).toNat := hF293 82 (by decide) _
                refine go_ret (k := 1) (r := some (.inl 1)) (w1 := (SH, dt291)) (fun _ => rfl) ?_
                exact ⟨dt291, rfl, hI292, hF294, (Or.inr ⟨rfl, ⟨by first | trivial | omega, by exact BL302, by unfold aOK; omega, by first | trivial | omega, by first | trivial | omega, by exact (InvC_get (by assumption) 79 15 rfl rfl).2, by first | trivial | omega, by first | trivial | omega, by first | trivial | omega, by first | trivial | omega, by first | trivial | omega⟩⟩)⟩
      · rw [hc7]
        refine go_to (k := 1) (pc' := 44) (L' := [some (.inr (.inr (some 79))), some (.inl 4)]) (st' := [.inr (.inr (some 79))]) (w' := (SH, dt)) (fun _ => rfl) ?_
        refine go_call (Q' := _) rfl rfl rfl rfl rfl (sp_X6_next0 L xs sio (d + 2) dt hI   (by first | trivial | omega)) ?_
        rintro _ _ ⟨dt309, rfl, hI310, hF311, h308⟩
        refine ⟨rfl, ?_⟩
        have hF312 : Fr [79, 82] dt dt309 := Fr_tr hF hF311 (by decide)
        have E84313 : dt309 84 = dt 84 := funext (hF311 84 (by decide))
        rcases h308 with ⟨rfl, h308⟩
        obtain ⟨h308_0, h308_1, h308_2, h308_3, h308_4, h308_5, h308_6, h308_7, h308_8⟩ := h308
        have BL314 : ∀ j : Nat, (j : Int) < 5 * dt 79 10 → dt309 82 j = dt 82 j := fun j hj => (hF311 82 (by decide) j).trans ((fun _ _ => rfl) j hj)
        have y315 : dt309 82 ((5 * (dt 79 10))).toNat = dt 82 ((5 * (dt 79 10))).toNat := hF311 82 (by decide) _
        have y316 : dt309 82 ((5 * (dt 79 10)) + 1).toNat = dt 82 ((5 * (dt 79 10)) + 1).toNat := hF311 82 (by decide) _
        have y317 : dt309 82 ((5 * (dt 79 10)) + 2).toNat = dt 82 ((5 * (dt 79 10)) + 2).toNat := hF311 82 (by decide) _
        have y318 : dt309 82 ((5 * (dt 79 10)) + 3).toNat = dt 82 ((5 * (dt 79 10)) + 3).toNat := hF311 82 (by decide) _
        have y319 : dt309 82 ((5 * (dt 79 10)) + 4).toNat = dt 82 ((5 * (dt 79 10)) + 4).toNat := hF311 82 (by decide) _
        have r320 : 0 ≤ dt309 79 10 ∧ dt309 79 10 ≤ 24 := InvC_get hI310 79 10 rfl rfl
        refine go_to (k := 7) (pc' := 58) (L' := [some (.inr (.inr (some 79))), some (.inl 4)]) (st' := [.inl 4, .inl (5 * (dt309 79 10)), .inr (.inr (some 82))]) (w' := (SH, dt309)) (fun _ => rfl) ?_
        have hI321 : InvC (u2 dt309 82 ((5 * (dt309 79 10)).toNat) 4) := InvC_u2 hI310 (lo := -2147483648) (hi := 2147483647) rfl rfl rfl (by omega) (by omega)
        have hF322 : Fr [79, 82] dt (u2 dt309 82 ((5 * (dt309 79 10)).toNat) 4) := Fr_u2 hF312 (by decide)
        have w323 : (u2 dt309 82 ((5 * (dt309 79 10)).toNat) 4) 79 2 = dt309 79 2 := rfl
        have w324 : (u2 dt309 82 ((5 * (dt309 79 10)).toNat) 4) 79 9 = dt309 79 9 := rfl
        have w325 : (u2 dt309 82 ((5 * (dt309 79 10)).toNat) 4) 79 10 = dt309 79 10 := rfl
        have w326 : (u2 dt309 82 ((5 * (dt309 79 10)).toNat) 4) 79 11 = dt309 79 11 := rfl
        have w327 : (u2 dt309 82 ((5 * (dt309 79 10)).toNat) 4) 79 12 = dt309 79 12 := rfl
        have w328 : (u2 dt309 82 ((5 * (dt309 79 10)).toNat) 4) 79 13 = dt309 79 13 := rfl
        have w329 : (u2 dt309 82 ((5 * (dt309 79 10)).toNat) 4) 79 14 = dt309 79 14 := rfl
        have w330 : (u2 dt309 82 ((5 * (dt309 79 10)).toNat) 4) 79 15 = dt309 79 15 := rfl
        have w331 : (u2 dt309 82 ((5 * (dt309 79 10)).toNat) 4) 79 16 = dt309 79 16 := rfl
        have w332 : (u2 dt309 82 ((5 * (dt309 79 10)).toNat) 4) 79 20 = dt309 79 20 := rfl
        have E84333 : (u2 dt309 82 ((5 * (dt309 79 10)).toNat) 4) 84 = dt 84 := (funext fun _ => u2_ne (by omega)).trans E84313
        have ex335 : ((5 * (dt 79 10))).toNat = (5 * (dt309 79 10)).toNat := by omega
        have BL334 : ∀ j : Nat, (j : Int) < 5 * dt 79 10 → (u2 dt309 82 ((5 * (dt309 79 10)).toNat) 4) 82 j = dt 82 j := fun j hj => (u2_ne (by omega)).trans (BL314 j hj)
        have y336 : (u2 dt309 82 ((5 * (dt309 79 10)).toNat) 4) 82 ((5 * (dt 79 10))).toNat = 4 := by rw [ex335]; exact u2_eq
        have y337 : (u2 dt309 82 ((5 * (dt309 79 10)).toNat) 4) 82 ((5 * (dt 79 10)) + 1).toNat = dt309 82 ((5 * (dt 79 10)) + 1).toNat := u2_ne (by omega)
        have y338 : (u2 dt309 82 ((5 * (dt309 79 10)).toNat) 4) 82 ((5 * (dt 79 10)) + 2).toNat = dt309 82 ((5 * (dt 79 10)) + 2).toNat := u2_ne (by omega)
        have y339 : (u2 dt309 82 ((5 * (dt309 79 10)).toNat) 4) 82 ((5 * (dt 79 10)) + 3).toNat = dt309 82 ((5 * (dt 79 10)) + 3).toNat := u2_ne (by omega)
        have y340 : (u2 dt309 82 ((5 * (dt309 79 10)).toNat) 4) 82 ((5 * (dt 79 10)) + 4).toNat = dt309 82 ((5 * (dt 79 10)) + 4).toNat := u2_ne (by omega)
        refine go_smp (L' := [some (.inr (.inr (some 79))), some (.inl 4)]) (st' := []) (w' := (SH, (u2 dt309 82 ((5 * (dt309 79 10)).toNat) 4))) rfl rfl (s_iast (n := 120) rfl ⟨by omega, by omega⟩ ⟨by omega, by omega⟩) ?_
        refine go_to (k := 6) (pc' := 72) (L' := [some (.inr (.inr (some 79))), some (.inl 4)]) (st' := [.inl 3, .inl 1, .inr (.inr (some 79))]) (w' := (SH, (u2 dt309 82 ((5 * (dt309 79 10)).toNat) 4))) (fun _ => rfl) ?_
        refine go_call (Q' := _) rfl rfl rfl rfl rfl (sp_X6_argument L xs sio (d + 0) (u2 dt309 82 ((5 * (dt309 79 10)).toNat) 4) hI321  1 ⟨by omega, by omega⟩ 3 ⟨by omega, by omega⟩ (by first | trivial | omega) (by first | trivial | omega)) ?_
        rintro _ _ ⟨dt342, rfl, hI343, hF344, h341⟩
        refine ⟨rfl, ?_⟩
        have hF345 : Fr [79, 82] dt dt342 := Fr_tr hF322 hF344 (by decide)
        have E84346 : dt342 84 = dt 84 := (funext (hF344 84 (by decide))).trans E84333
        rcases h341 with ⟨rfl, h341⟩ | ⟨rfl, h341⟩
        · skip
          obtain ⟨h341_0, h341_1, h341_2, h341_3⟩ := h341
          refine go_ret (k := 3) (r := some (.inl 0)) (w1 := (SH, dt342)) (fun _ => rfl) ?_
          exact ⟨dt342, rfl, hI343, hF345, (Or.inl ⟨rfl, ⟨by first | trivial | omega, by first | trivial | omega, by first | trivial | omega⟩⟩)⟩
        · skip
          obtain ⟨h341_0, h341_1, h341_2, h341_3, h341_4, h341_5, h341_6, h341_7, h341_8, h341_9, h341_10⟩ := h341
          have BL347 : ∀ j : Nat, (j : Int) < 5 * dt 79 10 → dt342 82 j = dt 82 j := fun j hj => (h341_0 j (by omega)).trans (BL334 j hj)
          have y348 : dt342 82 ((5 * (dt 79 10))).toNat = (u2 dt309 82 ((5 * (dt309 79 10)).toNat) 4) 82 ((5 * (dt 79 10))).toNat := h341_0 ((5 * (dt 79 10))).toNat (by omega)
          have y349 : dt342 82 ((5 * (dt 79 10)) + 2).toNat = (u2 dt309 82 ((5 * (dt309 79 10)).toNat) 4) 82 ((5 * (dt 79 10)) + 2).toNat := h341_0 ((5 * (dt 79 10)) + 2).toNat (by omega)
          have y350 : dt342 82 ((5 * (dt 79 10)) + 3).toNat = (u2 dt309 82 ((5 * (dt309 79 10)).toNat) 4) 82 ((5 * (dt 79 10)) + 3).toNat := h341_0 ((5 * (dt 79 10)) + 3).toNat (by omega)
          have y351 : dt342 82 ((5 * (dt 79 10)) + 4).toNat = (u2 dt309 82 ((5 * (dt309 79 10)).toNat) 4) 82 ((5 * (dt 79 10)) + 4).toNat := h341_0 ((5 * (dt 79 10)) + 4).toNat (by omega)
          have y352 := h341_1 ((5 * (dt 79 10)) + 1) (by omega)
          have r353 : (-2147483648) ≤ dt342 79 14 ∧ dt342 79 14 ≤ 2147483647 := InvC_get hI343 79 14 rfl rfl
          refine go_if (k := 8) (p1 := 119) (p2 := 93) (L' := [some (.inr (.inr (some 79))), some (.inl 4)]) (st' := []) (w' := (SH, dt342)) (fun _ => rfl) (c_ne (a := dt342 79 14) (b := 2) ⟨by omega, by omega⟩ ⟨by omega, by omega⟩) (fun c354 => ?_) (fun c354 => ?_)
          · skip
            refine go_to (k := 3) (pc' := 122) (L' := [some (.inr (.inr (some 79))), some (.inl 4)]) (st' := [.inl 3, .inl 4, .inr (.inr (some 79))]) (w' := (SH, dt342)) (fun _ => rfl) ?_
            refine go_call (Q' := _) rfl rfl rfl rfl rfl (sp_X6_argument L xs sio (d + 0) dt342 hI343  4 ⟨by omega, by omega⟩ 3 ⟨by omega, by omega⟩ (by first | trivial | omega) (by first | trivial | omega)) ?_
            rintro _ _ ⟨dt356, rfl, hI357, hF358, h355⟩
            refine ⟨rfl, ?_⟩
            have hF359 : Fr [79, 82] dt dt356 := Fr_tr hF345 hF358 (by decide)
            have E84360 : dt356 84 = dt 84 := (funext (hF358 84 (by decide))).trans E84346
            rcases h355 with ⟨rfl, h355⟩ | ⟨rfl, h355⟩
            · skip
              obtain ⟨h355_0, h355_1, h355_2, h355_3⟩ := h355
              refine go_ret (k := 3) (r := some (.inl 0)) (w1 := (SH, dt356)) (fun _ => rfl) ?_
              exact ⟨dt356, rfl, hI357, hF359, (Or.inl ⟨rfl, ⟨by first | trivial | omega, by first | trivial | omega, by first | trivial | omega⟩⟩)⟩
            · skip
              obtain ⟨h355_0, h355_1, h355_2, h355_3, h355_4, h355_5, h355_6, h355_7, h355_8, h355_9, h355_10⟩ := h355
              have BL361 : ∀ j : Nat, (j : Int) < 5 * dt 79 10 → dt356 82 j = dt 82 j := fun j hj => (h355_0 j (by omega)).trans (BL347 j hj)
              have y362 : dt356 82 ((5 * (dt 79 10))).toNat = dt342 82 ((5 * (dt 79 10))).toNat := h355_0 ((5 * (dt 79 10))).toNat (by omega)
              have y363 : dt356 82 ((5 * (dt 79 10)) + 1).toNat = dt342 82 ((5 * (dt 79 10)) + 1).toNat := h355_0 ((5 * (dt 79 10)) + 1).toNat (by omega)
              have y364 : dt356 82 ((5 * (dt 79 10)) + 2).toNat = dt342 82 ((5 * (dt 79 10)) + 2).toNat := h355_0 ((5 * (dt 79 10)) + 2).toNat (by omega)
              have y365 : dt356 82 ((5 * (dt 79 10)) + 3).toNat = dt342 82 ((5 * (dt 79 10)) + 3).toNat := h355_0 ((5 * (dt 79 10)) + 3).toNat (by omega)
              have y366 := h355_1 ((5 * (dt 79 10)) + 4) (by omega)
              refine go_to (k := 13) (pc' := 148) (L' := [some (.inr (.inr (some 79))), some (.inl 4)]) (st' := [.inl 2, .inl 2, .inr (.inr (some 79))]) (w' := (SH, dt356)) (fun _ => rfl) ?_
              refine go_call (Q' := _) rfl rfl rfl rfl rfl (sp_X6_argument L xs sio (d + 0) dt356 hI357  2 ⟨by omega, by omega⟩ 2 ⟨by omega, by omega⟩ (by first | trivial | omega) (by first | trivial | omega)) ?_
              rintro _ _ ⟨dt368, rfl, hI369, hF370, h367⟩
              refine ⟨rfl, ?_⟩
              have hF371 : Fr [79, 82] dt dt368 := Fr_tr hF359 hF370 (by decide)
              have E84372 : dt368 84 = dt 84 := (funext (hF370 84 (by decide))).trans E84360
              rcases h367 with ⟨rfl, h367⟩ | ⟨rfl, h367⟩
              · skip
                obtain ⟨h367_0, h367_1, h367_2, h367_3⟩ := h367
                refine go_ret (k := 3) (r := some (.inl 0)) (w1 := (SH, dt368)) (fun _ => rfl) ?_
                exact ⟨dt368, rfl, hI369, hF371, (Or.inl ⟨rfl, ⟨by first | trivial | omega, by first | trivial | omega, by first | trivial | omega⟩⟩)⟩
              · skip
                obtain ⟨h367_0, h367_1, h367_2, h367_3, h367_4, h367_5, h367_6, h367_7, h367_8, h367_9, h367_10⟩ := h367
                have BL373 : ∀ j : Nat, (j : Int) < 5 * dt 79 10 → dt368 82 j = dt 82 j := fun j hj => (h367_0 j (by omega)).trans (BL361 j hj)
                have y374 : dt368 82 ((5 * (dt 79 10))).toNat = dt356 82 ((5 * (dt 79 10))).toNat := h367_0 ((5 * (dt 79 10))).toNat (by omega)
                have y375 : dt368 82 ((5 * (dt 79 10)) + 1).toNat = dt356 82 ((5 * (dt 79 10)) + 1).toNat := h367_0 ((5 * (dt 79 10)) + 1).toNat (by omega)
                have y376 : dt368 82 ((5 * (dt 79 10)) + 3).toNat = dt356 82 ((5 * (dt 79 10)) + 3).toNat := h367_0 ((5 * (dt 79 10)) + 3).toNat (by omega)
                have y377 : dt368 82 ((5 * (dt 79 10)) + 4).toNat = dt356 82 ((5 * (dt 79 10)) + 4).toNat := h367_0 ((5 * (dt 79 10)) + 4).toNat (by omega)
                have y378 := h367_1 ((5 * (dt 79 10)) + 2) (by omega)
                refine go_to (k := 13) (pc' := 179) (L' := [some (.inr (.inr (some 79))), some (.inl 4)]) (st' := [.inl 3, .inl 3, .inr (.inr (some 79))]) (w' := (SH, dt368)) (fun _ => rfl) ?_
                refine go_call (Q' := _) rfl rfl rfl rfl rfl (sp_X6_argument L xs sio (d + 0) dt368 hI369  3 ⟨by omega, by omega⟩ 3 ⟨by omega, by omega⟩ (by first | trivial | omega) (by first | trivial | omega)) ?_
                rintro _ _ ⟨dt380, rfl, hI381, hF382, h379⟩
                refine ⟨rfl, ?_⟩
                have hF383 : Fr [79, 82] dt dt380 := Fr_tr hF371 hF382 (by decide)
                have E84384 : dt380 84 = dt 84 := (funext (hF382 84 (by decide))).trans E84372
                rcases h379 with ⟨rfl, h379⟩ | ⟨rfl, h379⟩
                · skip
                  obtain ⟨h379_0, h379_1, h379_2, h379_3⟩ := h379
                  refine go_ret (k := 3) (r := some (.inl 0)) (w1 := (SH, dt380)) (fun _ => rfl) ?_
                  exact ⟨dt380, rfl, hI381, hF383, (Or.inl ⟨rfl, ⟨by first | trivial | omega, by first | trivial | omega, by first | trivial | omega⟩⟩)⟩
                · skip
                  obtain ⟨h379_0, h379_1, h379_2, h379_3, h379_4, h379_5, h379_6, h379_7, h379_8, h379_9, h379_10⟩ := h379
                  have BL385 : ∀ j : Nat, (j : Int) < 5 * dt 79 10 → dt380 82 j = dt 82 j := fun j hj => (h379_0 j (by omega)).trans (BL373 j hj)
                  have y386 : dt380 82 ((5 * (dt 79 10))).toNat = dt368 82 ((5 * (dt 79 10))).toNat := h379_0 ((5 * (dt 79 10))).toNat (by omega)
                  have y387 : dt380 82 ((5 * (dt 79 10)) + 1).toNat = dt368 82 ((5 * (dt 79 10)) + 1).toNat := h379_0 ((5 * (dt 79 10)) + 1).toNat (by omega)
                  have y388 : dt380 82 ((5 * (dt 79 10)) + 2).toNat = dt368 82 ((5 * (dt 79 10)) + 2).toNat := h379_0 ((5 * (dt 79 10)) + 2).toNat (by omega)
                  have y389 : dt380 82 ((5 * (dt 79 10)) + 4).toNat = dt368 82 ((5 * (dt 79 10)) + 4).toNat := h379_0 ((5 * (dt 79 10)) + 4).toNat (by omega)
                  have y390 := h379_1 ((5 * (dt 79 10)) + 3) (by omega)
                  refine go_to (k := 6) (pc' := 208) (L' := [some (.inr (.inr (some 79))), some (.inl 4)]) (st' := [.inl 159, .inr (.inr (some 79))]) (w' := (SH, dt380)) (fun _ => rfl) ?_
                  refine go_call (Q' := _) rfl rfl rfl rfl rfl (sp_X6_need0 L xs sio (d + 1) dt380 hI381  159 ⟨by omega, by omega⟩ (by first | trivial | omega)) ?_
                  rintro _ _ ⟨dt392, rfl, hI393, hF394, h391⟩
                  refine ⟨rfl, ?_⟩
                  have hF395 : Fr [79, 82] dt dt392 := Fr_tr hF383 hF394 (by decide)
                  have E84396 : dt392 84 = dt 84 := (funext (hF394 84 (by decide))).trans E84384
                  rcases h391 with ⟨rfl, h391⟩ | ⟨rfl, h391⟩
                  · skip
                    obtain ⟨h391_0, h391_1, h391_2, h391_3⟩ := h391
                    have BL397 : ∀ j : Nat, (j : Int) < 5 * dt 79 10 → dt392 82 j = dt 82 j := fun j hj => (hF394 82 (by decide) j).trans (BL385 j hj)
                    have y398 : dt392 82 ((5 * (dt 79 10))).toNat = dt380 82 ((5 * (dt 79 10))).toNat := hF394 82 (by decide) _
                    have y399 : dt392 82 ((5 * (dt 79 10)) + 1).toNat = dt380 82 ((5 * (dt 79 10)) + 1).toNat := hF394 82 (by decide) _
                    have y400 : dt392 82 ((5 * (dt 79 10)) + 2).toNat = dt380 82 ((5 * (dt 79 10)) + 2).toNat := hF394 82 (by decide) _
                    have y401 : dt392 82 ((5 * (dt 79 10)) + 3).toNat = dt380 82 ((5 * (dt 79 10)) + 3).toNat := hF394 82 (by decide) _
                    have y402 : dt392 82 ((5 * (dt 79 10)) + 4).toNat = dt380 82 ((5 * (dt 79 10)) + 4).toNat := hF394 82 (by decide) _
                    refine go_ret (k := 1) (r := some (.inl 0)) (w1 := (SH, dt392)) (fun _ => rfl) ?_
                    exact ⟨dt392, rfl, hI393, hF395, (Or.inl ⟨rfl, ⟨by first | trivial | omega, by first | trivial | omega, by first | trivial | omega⟩⟩)⟩
                  · skip
                    obtain ⟨h391_0, h391_1, h391_2, h391_3, h391_4, h391_5, h391_6, h391_7, h391_8⟩ := h391
                    have BL403 : ∀ j : Nat, (j : Int) < 5 * dt 79 10 → dt392 82 j = dt 82 j := fun j hj => (hF394 82 (by decide) j).trans (BL385 j hj)
                    have y404 : dt392 82 ((5 * (dt 79 10))).toNat = dt380 82 ((5 * (dt 79 10))).toNat := hF394 82 (by decide) _
                    have y405 : dt392 82 ((5 * (dt 79 10)) + 1).toNat = dt380 82 ((5 * (dt 79 10)) + 1).toNat := hF394 82 (by decide) _
                    have y406 : dt392 82 ((5 * (dt 79 10)) + 2).toNat = dt380 82 ((5 * (dt 79 10)) + 2).toNat := hF394 82 (by decide) _
                    have y407 : dt392 82 ((5 * (dt 79 10)) + 3).toNat = dt380 82 ((5 * (dt 79 10)) + 3).toNat := hF394 82 (by decide) _
                    have y408 : dt392 82 ((5 * (dt 79 10)) + 4).toNat = dt380 82 ((5 * (dt 79 10)) + 4).toNat := hF394 82 (by decide) _
                    refine go_ret (k := 1) (r := some (.inl 1)) (w1 := (SH, dt392)) (fun _ => rfl) ?_
                    exact ⟨dt392, rfl, hI393, hF395, (Or.inr ⟨rfl, ⟨by first | trivial | omega, by exact BL403, by unfold aOK; omega, by first | trivial | omega, by first | trivial | omega, by exact (InvC_get (by assumption) 79 15 rfl rfl).2, by first | trivial | omega, by first | trivial | omega, by first | trivial | omega, by first | trivial | omega, by first | trivial | omega⟩⟩)⟩
          · skip
            have r409 : 0 ≤ dt342 79 16 ∧ dt342 79 16 ≤ 9999 := InvC_get hI343 79 16 rfl rfl
            have r410 : 0 ≤ dt342 79 10 ∧ dt342 79 10 ≤ 24 := InvC_get hI343 79 10 rfl rfl
            refine go_to (k := 10) (pc' := 109) (L' := [some (.inr (.inr (some 79))), some (.inl 4)]) (st' := [.inl ((5 * (dt342 79 10)) + 1), .inr (.inr (some 82)), .inl (dt342 79 16)]) (w' := (SH, dt342)) (fun _ => rfl) ?_
            have r411 : (-2147483648) ≤ dt342 82 (((5 * (dt342 79 10)) + 1).toNat) ∧ dt342 82 (((5 * (dt342 79 10)) + 1).toNat) ≤ 2147483647 := InvC_get hI343 82 (((5 * (dt342 79 10)) + 1).toNat) rfl rfl
            refine go_smp (L' := [some (.inr (.inr (some 79))), some (.inl 4)]) (st' := [.inl (dt342 82 (((5 * (dt342 79 10)) + 1).toNat)), .inl (dt342 79 16)]) (w' := (SH, dt342)) rfl rfl (s_iald (n := 120) (f := dt342 82) rfl ⟨by omega, by omega⟩) ?_
            refine go_if (k := 1) (p1 := 119) (p2 := 113) (L' := [some (.inr (.inr (some 79))), some (.inl 4)]) (st' := []) (w' := (SH, dt342)) (fun _ => rfl) (c_ne (a := dt342 79 16) (b := dt342 82 (((5 * (dt342 79 10)) + 1).toNat)) ⟨by omega, by omega⟩ ⟨by omega, by omega⟩) (fun c412 => ?_) (fun c412 => ?_)
            · skip
              refine go_to (k := 3) (pc' := 122) (L' := [some (.inr (.inr (some 79))), some (.inl 4)]) (st' := [.inl 3, .inl 4, .inr (.inr (some 79))]) (w' := (SH, dt342)) (fun _ => rfl) ?_
              refine go_call (Q' := _) rfl rfl rfl rfl rfl (sp_X6_argument L xs sio (d + 0) dt342 hI343  4 ⟨by omega, by omega⟩ 3 ⟨by omega, by omega⟩ (by first | trivial | omega) (by first | trivial | omega)) ?_
              rintro _ _ ⟨dt414, rfl, hI415, hF416, h413⟩
              refine ⟨rfl, ?_⟩
              have hF417 : Fr [79, 82] dt dt414 := Fr_tr hF345 hF416 (by decide)
              have E84418 : dt414 84 = dt 84 := (funext (hF416 84 (by decide))).trans E84346
              rcases h413 with ⟨rfl, h413⟩ | ⟨rfl, h413⟩
              · skip
                obtain ⟨h413_0, h413_1, h413_2, h413_3⟩ := h413
                refine go_ret (k := 3) (r := some (.inl 0)) (w1 := (SH, dt414)) (fun _ => rfl) ?_
                exact ⟨dt414, rfl, hI415, hF417, (Or.inl ⟨rfl, ⟨by first | trivial | omega, by first | trivial | omega, by first | trivial | omega⟩⟩)⟩
              · skip
                obtain ⟨h413_0, h413_1, h413_2, h413_3, h413_4, h413_5, h413_6, h413_7, h413_8, h413_9, h413_10⟩ := h413
                have BL419 : ∀ j : Nat, (j : Int) < 5 * dt 79 10 → dt414 82 j = dt 82 j := fun j hj => (h413_0 j (by omega)).trans (BL347 j hj)
                have y420 : dt414 82 ((5 * (dt 79 10))).toNat = dt342 82 ((5 * (dt 79 10))).toNat := h413_0 ((5 * (dt 79 10))).toNat (by omega)
                have y421 : dt414 82 ((5 * (dt 79 10)) + 1).toNat = dt342 82 ((5 * (dt 79 10)) + 1).toNat := h413_0 ((5 * (dt 79 10)) + 1).toNat (by omega)
                have y422 : dt414 82 ((5 * (dt 79 10)) + 2).toNat = dt342 82 ((5 * (dt 79 10)) + 2).toNat := h413_0 ((5 * (dt 79 10)) + 2).toNat (by omega)
                have y423 : dt414 82 ((5 * (dt 79 10)) + 3).toNat = dt342 82 ((5 * (dt 79 10)) + 3).toNat := h413_0 ((5 * (dt 79 10)) + 3).toNat (by omega)
                have y424 := h413_1 ((5 * (dt 79 10)) + 4) (by omega)
                refine go_to (k := 13) (pc' := 148) (L' := [some (.inr (.inr (some 79))), some (.inl 4)]) (st' := [.inl 2, .inl 2, .inr (.inr (some 79))]) (w' := (SH, dt414)) (fun _ => rfl) ?_
                refine go_call (Q' := _) rfl rfl rfl rfl rfl (sp_X6_argument L xs sio (d + 0) dt414 hI415  2 ⟨by omega, by omega⟩ 2 ⟨by omega, by omega⟩ (by first | trivial | omega) (by first | trivial | omega)) ?_
                rintro _ _ ⟨dt426, rfl, hI427, hF428, h425⟩
                refine ⟨rfl, ?_⟩
                have hF429 : Fr [79, 82] dt dt426 := Fr_tr hF417 hF428 (by decide)
                have E84430 : dt426 84 = dt 84 := (funext (hF428 84 (by decide))).trans E84418
                rcases h425 with ⟨rfl, h425⟩ | ⟨rfl, h425⟩
                · skip
                  obtain ⟨h425_0, h425_1, h425_2, h425_3⟩ := h425
                  refine go_ret (k := 3) (r := some (.inl 0)) (w1 := (SH, dt426)) (fun _ => rfl) ?_
                  exact ⟨dt426, rfl, hI427, hF429, (Or.inl ⟨rfl, ⟨by first | trivial | omega, by first | trivial | omega, by first | trivial | omega⟩⟩)⟩
                · skip
                  obtain ⟨h425_0, h425_1, h425_2, h425_3, h425_4, h425_5, h425_6, h425_7, h425_8, h425_9, h425_10⟩ := h425
                  have BL431 : ∀ j : Nat, (j : Int) < 5 * dt 79 10 → dt426 82 j = dt 82 j := fun j hj => (h425_0 j (by omega)).trans (BL419 j hj)
                  have y432 : dt426 82 ((5 * (dt 79 10))).toNat = dt414 82 ((5 * (dt 79 10))).toNat := h425_0 ((5 * (dt 79 10))).toNat (by omega)
                  have y433 : dt426 82 ((5 * (dt 79 10)) + 1).toNat = dt414 82 ((5 * (dt 79 10)) + 1).toNat := h425_0 ((5 * (dt 79 10)) + 1).toNat (by omega)
                  have y434 : dt426 82 ((5 * (dt 79 10)) + 3).toNat = dt414 82 ((5 * (dt 79 10)) + 3).toNat := h425_0 ((5 * (dt 79 10)) + 3).toNat (by omega)
                  have y435 : dt426 82 ((5 * (dt 79 10)) + 4).toNat = dt414 82 ((5 * (dt 79 10)) + 4).toNat := h425_0 ((5 * (dt 79 10)) + 4).toNat (by omega)
                  have y436 := h425_1 ((5 * (dt 79 10)) + 2) (by omega)
                  refine go_to (k := 13) (pc' := 179) (L' := [some (.inr (.inr (some 79))), some (.inl 4)]) (st' := [.inl 3, .inl 3, .inr (.inr (some 79))]) (w' := (SH, dt426)) (fun _ => rfl) ?_
                  refine go_call (Q' := _) rfl rfl rfl rfl rfl (sp_X6_argument L xs sio (d + 0) dt426 hI427  3 ⟨by omega, by omega⟩ 3 ⟨by omega, by omega⟩ (by first | trivial | omega) (by first | trivial | omega)) ?_
                  rintro _ _ ⟨dt438, rfl, hI439, hF440, h437⟩
                  refine ⟨rfl, ?_⟩
                  have hF441 : Fr [79, 82] dt dt438 := Fr_tr hF429 hF440 (by decide)
                  have E84442 : dt438 84 = dt 84 := (funext (hF440 84 (by decide))).trans E84430
                  rcases h437 with ⟨rfl, h437⟩ | ⟨rfl, h437⟩
                  · skip
                    obtain ⟨h437_0, h437_1, h437_2, h437_3⟩ := h437
                    refine go_ret (k := 3) (r := some (.inl 0)) (w1 := (SH, dt438)) (fun _ => rfl) ?_
                    exact ⟨dt438, rfl, hI439, hF441, (Or.inl ⟨rfl, ⟨by first | trivial | omega, by first | trivial | omega, by first | trivial | omega⟩⟩)⟩
                  · skip
                    obtain ⟨h437_0, h437_1, h437_2, h437_3, h437_4, h437_5, h437_6, h437_7, h437_8, h437_9, h437_10⟩ := h437
                    have BL443 : ∀ j : Nat, (j : Int) < 5 * dt 79 10 → dt438 82 j = dt 82 j := fun j hj => (h437_0 j (by omega)).trans (BL431 j hj)
                    have y444 : dt438 82 ((5 * (dt 79 10))).toNat = dt426 82 ((5 * (dt 79 10))).toNat := h437_0 ((5 * (dt 79 10))).toNat (by omega)
                    have y445 : dt438 82 ((5 * (dt 79 10)) + 1).toNat = dt426 82 ((5 * (dt 79 10)) + 1).toNat := h437_0 ((5 * (dt 79 10)) + 1).toNat (by omega)
                    have y446 : dt438 82 ((5 * (dt 79 10)) + 2).toNat = dt426 82 ((5 * (dt 79 10)) + 2).toNat := h437_0 ((5 * (dt 79 10)) + 2).toNat (by omega)
                    have y447 : dt438 82 ((5 * (dt 79 10)) + 4).toNat = dt426 82 ((5 * (dt 79 10)) + 4).toNat := h437_0 ((5 * (dt 79 10)) + 4).toNat (by omega)
                    have y448 := h437_1 ((5 * (dt 79 10)) + 3) (by omega)
                    refine go_to (k := 6) (pc' := 208) (L' := [some (.inr (.inr (some 79))), some (.inl 4)]) (st' := [.inl 159, .inr (.inr (some 79))]) (w' := (SH, dt438)) (fun _ => rfl) ?_
                    refine go_call (Q' := _) rfl rfl rfl rfl rfl (sp_X6_need0 L xs sio (d + 1) dt438 hI439  159 ⟨by omega, by omega⟩ (by first | trivial | omega)) ?_
                    rintro _ _ ⟨dt450, rfl, hI451, hF452, h449⟩
                    refine ⟨rfl, ?_⟩
                    have hF453 : Fr [79, 82] dt dt450 := Fr_tr hF441 hF452 (by decide)
                    have E84454 : dt450 84 = dt 84 := (funext (hF452 84 (by decide))).trans E84442
                    rcases h449 with ⟨rfl, h449⟩ | ⟨rfl, h449⟩
                    · skip
                      obtain ⟨h449_0, h449_1, h449_2, h449_3⟩ := h449
                      have BL455 : ∀ j : Nat, (j : Int) < 5 * dt 79 10 → dt450 82 j = dt 82 j := fun j hj => (hF452 82 (by decide) j).trans (BL443 j hj)
                      have y456 : dt450 82 ((5 * (dt 79 10))).toNat = dt438 82 ((5 * (dt 79 10))).toNat := hF452 82 (by decide) _
                      have y457 : dt450 82 ((5 * (dt 79 10)) + 1).toNat = dt438 82 ((5 * (dt 79 10)) + 1).toNat := hF452 82 (by decide) _
                      have y458 : dt450 82 ((5 * (dt 79 10)) + 2).toNat = dt438 82 ((5 * (dt 79 10)) + 2).toNat := hF452 82 (by decide) _
                      have y459 : dt450 82 ((5 * (dt 79 10)) + 3).toNat = dt438 82 ((5 * (dt 79 10)) + 3).toNat := hF452 82 (by decide) _
                      have y460 : dt450 82 ((5 * (dt 79 10)) + 4).toNat = dt438 82 ((5 * (dt 79 10)) + 4).toNat := hF452 82 (by decide) _
                      refine go_ret (k := 1) (r := some (.inl 0)) (w1 := (SH, dt450)) (fun _ => rfl) ?_
                      exact ⟨dt450, rfl, hI451, hF453, (Or.inl ⟨rfl, ⟨by first | trivial | omega, by first | trivial | omega, by first | trivial | omega⟩⟩)⟩
                    · skip
                      obtain ⟨h449_0, h449_1, h449_2, h449_3, h449_4, h449_5, h449_6, h449_7, h449_8⟩ := h449
                      have BL461 : ∀ j : Nat, (j : Int) < 5 * dt 79 10 → dt450 82 j = dt 82 j := fun j hj => (hF452 82 (by decide) j).trans (BL443 j hj)
                      have y462 : dt450 82 ((5 * (dt 79 10))).toNat = dt438 82 ((5 * (dt 79 10))).toNat := hF452 82 (by decide) _
                      have y463 : dt450 82 ((5 * (dt 79 10)) + 1).toNat = dt438 82 ((5 * (dt 79 10)) + 1).toNat := hF452 82 (by decide) _
                      have y464 : dt450 82 ((5 * (dt 79 10)) + 2).toNat = dt438 82 ((5 * (dt 79 10)) + 2).toNat := hF452 82 (by decide) _
                      have y465 : dt450 82 ((5 * (dt 79 10)) + 3).toNat = dt438 82 ((5 * (dt 79 10)) + 3).toNat := hF452 82 (by decide) _
                      have y466 : dt450 82 ((5 * (dt 79 10)) + 4).toNat = dt438 82 ((5 * (dt 79 10)) + 4).toNat := hF452 82 (by decide) _
                      refine go_ret (k := 1) (r := some (.inl 1)) (w1 := (SH, dt450)) (fun _ => rfl) ?_
                      exact ⟨dt450, rfl, hI451, hF453, (Or.inr ⟨rfl, ⟨by first | trivial | omega, by exact BL461, by unfold aOK; omega, by first | trivial | omega, by first | trivial | omega, by exact (InvC_get (by assumption) 79 15 rfl rfl).2, by first | trivial | omega, by first | trivial | omega, by first | trivial | omega, by first | trivial | omega, by first | trivial | omega⟩⟩)⟩
            · skip
              refine go_to (k := 2) (pc' := 115) (L' := [some (.inr (.inr (some 79))), some (.inl 4)]) (st' := [.inl 2, .inr (.inr (some 79))]) (w' := (SH, dt342)) (fun _ => rfl) ?_
              refine go_call (Q' := _) rfl rfl rfl rfl rfl (sp_X6_bad L xs sio (d + 8) dt342 hI343  2 ⟨by omega, by omega⟩ ) ?_
              rintro _ _ ⟨dt468, rfl, hI469, hF470, h467⟩
              refine ⟨rfl, ?_⟩
              have hF471 : Fr [79, 82] dt dt468 := Fr_tr hF345 hF470 (by decide)
              have E84472 : dt468 84 = dt 84 := (funext (hF470 84 (by decide))).trans E84346
              rcases h467 with ⟨rfl, h467⟩
              obtain ⟨h467_0, h467_1, h467_2, h467_3, h467_4, h467_5⟩ := h467
              have BL473 : ∀ j : Nat, (j : Int) < 5 * dt 79 10 → dt468 82 j = dt 82 j := fun j hj => (hF470 82 (by decide) j).trans (BL347 j hj)
              have y474 : dt468 82 ((5 * (dt 79 10))).toNat = dt342 82 ((5 * (dt 79 10))).toNat := hF470 82 (by decide) _
              have y475 : dt468 82 ((5 * (dt 79 10)) + 1).toNat = dt342 82 ((5 * (dt 79 10)) + 1).toNat := hF470 82 (by decide) _
              have y476 : dt468 82 ((5 * (dt 79 10)) + 2).toNat = dt342 82 ((5 * (dt 79 10)) + 2).toNat := hF470 82 (by decide) _
              have y477 : dt468 82 ((5 * (dt 79 10)) + 3).toNat = dt342 82 ((5 * (dt 79 10)) + 3).toNat := hF470 82 (by decide) _
              have y478 : dt468 82 ((5 * (dt 79 10)) + 4).toNat = dt342 82 ((5 * (dt 79 10)) + 4).toNat := hF470 82 (by decide) _
              refine go_ret (k := 1) (r := some (.inl 0)) (w1 := (SH, dt468)) (fun _ => rfl) ?_
              exact ⟨dt468, rfl, hI469, hF471, (Or.inl ⟨rfl, ⟨by first | trivial | omega, by first | trivial | omega, by first | trivial | omega⟩⟩)⟩
      · rw [hc7]
        refine go_to (k := 1) (pc' := 44) (L' := [some (.inr (.inr (some 79))), some (.inl 5)]) (st' := [.inr (.inr (some 79))]) (w' := (SH, dt)) (fun _ => rfl) ?_
        refine go_call (Q' := _) rfl rfl rfl rfl rfl (sp_X6_next0 L xs sio (d + 2) dt hI   (by first | trivial | omega)) ?_
        rintro _ _ ⟨dt480, rfl, hI481, hF482, h479⟩
        refine ⟨rfl, ?_⟩
        have hF483 : Fr [79, 82] dt dt480 := Fr_tr hF hF482 (by decide)
        have E84484 : dt480 84 = dt 84 := funext (hF482 84 (by decide))
        rcases h479 with ⟨rfl, h479⟩
        obtain ⟨h479_0, h479_1, h479_2, h479_3, h479_4, h479_5, h479_6, h479_7, h479_8⟩ := h479
        have BL485 : ∀ j : Nat, (j : Int) < 5 * dt 79 10 → dt480 82 j = dt 82 j := fun j hj => (hF482 82 (by decide) j).trans ((fun _ _ => rfl) j hj)
        have y486 : dt480 82 ((5 * (dt 79 10))).toNat = dt 82 ((5 * (dt 79 10))).toNat := hF482 82 (by decide) _
        have y487 : dt480 82 ((5 * (dt 79 10)) + 1).toNat = dt 82 ((5 * (dt 79 10)) + 1).toNat := hF482 82 (by decide) _
        have y488 : dt480 82 ((5 * (dt 79 10)) + 2).toNat = dt 82 ((5 * (dt 79 10)) + 2).toNat := hF482 82 (by decide) _
        have y489 : dt480 82 ((5 * (dt 79 10)) + 3).toNat = dt 82 ((5 * (dt 79 10)) + 3).toNat := hF482 82 (by decide) _
        have y490 : dt480 82 ((5 * (dt 79 10)) + 4).toNat = dt 82 ((5 * (dt 79 10)) + 4).toNat := hF482 82 (by decide) _
        have r491 : 0 ≤ dt480 79 10 ∧ dt480 79 10 ≤ 24 := InvC_get hI481 79 10 rfl rfl
        refine go_to (k := 7) (pc' := 58) (L' := [some (.inr (.inr (some 79))), some (.inl 5)]) (st' := [.inl 5, .inl (5 * (dt480 79 10)), .inr (.inr (some 82))]) (w' := (SH, dt480)) (fun _ => rfl) ?_
        have hI492 : InvC (u2 dt480 82 ((5 * (dt480 79 10)).toNat) 5) := InvC_u2 hI481 (lo := -2147483648) (hi := 2147483647) rfl rfl rfl (by omega) (by omega)
        have hF493 : Fr [79, 82] dt (u2 dt480 82 ((5 * (dt480 79 10)).toNat) 5) := Fr_u2 hF483 (by decide)
        have w494 : (u2 dt480 82 ((5 * (dt480 79 10)).toNat) 5) 79 2 = dt480 79 2 := rfl
        have w495 : (u2 dt480 82 ((5 * (dt480 79 10)).toNat) 5) 79 9 = dt480 79 9 := rfl
        have w496 : (u2 dt480 82 ((5 * (dt480 79 10)).toNat) 5) 79 10 = dt480 79 10 := rfl
        have w497 : (u2 dt480 82 ((5 * (dt480 79 10)).toNat) 5) 79 11 = dt480 79 11 := rfl
        have w498 : (u2 dt480 82 ((5 * (dt480 79 10)).toNat) 5) 79 12 = dt480 79 12 := rfl
        have w499 : (u2 dt480 82 ((5 * (dt480 79 10)).toNat) 5) 79 13 = dt480 79 13 := rfl
        have w500 : (u2 dt480 82 ((5 * (dt480 79 10)).toNat) 5) 79 14 = dt480 79 14 := rfl
        have w501 : (u2 dt480 82 ((5 * (dt480 79 10)).toNat) 5) 79 15 = dt480 79 15 := rfl
        have w502 : (u2 dt480 82 ((5 * (dt480 79 10)).toNat) 5) 79 16 = dt480 79 16 := rfl
        have w503 : (u2 dt480 82 ((5 * (dt480 79 10)).toNat) 5) 79 20 = dt480 79 20 := rfl
        have E84504 : (u2 dt480 82 ((5 * (dt480 79 10)).toNat) 5) 84 = dt 84 := (funext fun _ => u2_ne (by omega)).trans E84484
        have ex506 : ((5 * (dt 79 10))).toNat = (5 * (dt480 79 10)).toNat := by omega
        have BL505 : ∀ j : Nat, (j : Int) < 5 * dt 79 10 → (u2 dt480 82 ((5 * (dt480 79 10)).toNat) 5) 82 j = dt 82 j := fun j hj => (u2_ne (by omega)).trans (BL485 j hj)
        have y507 : (u2 dt480 82 ((5 * (dt480 79 10)).toNat) 5) 82 ((5 * (dt 79 10))).toNat = 5 := by rw [ex506]; exact u2_eq
        have y508 : (u2 dt480 82 ((5 * (dt480 79 10)).toNat) 5) 82 ((5 * (dt 79 10)) + 1).toNat = dt480 82 ((5 * (dt 79 10)) + 1).toNat := u2_ne (by omega)
        have y509 : (u2 dt480 82 ((5 * (dt480 79 10)).toNat) 5) 82 ((5 * (dt 79 10)) + 2).toNat = dt480 82 ((5 * (dt 79 10)) + 2).toNat := u2_ne (by omega)
        have y510 : (u2 dt480 82 ((5 * (dt480 79 10)).toNat) 5) 82 ((5 * (dt 79 10)) + 3).toNat = dt480 82 ((5 * (dt 79 10)) + 3).toNat := u2_ne (by omega)
        have y511 : (u2 dt480 82 ((5 * (dt480 79 10)).toNat) 5) 82 ((5 * (dt 79 10)) + 4).toNat = dt480 82 ((5 * (dt 79 10)) + 4).toNat := u2_ne (by omega)
        refine go_smp (L' := [some (.inr (.inr (some 79))), some (.inl 5)]) (st' := []) (w' := (SH, (u2 dt480 82 ((5 * (dt480 79 10)).toNat) 5))) rfl rfl (s_iast (n := 120) rfl ⟨by omega, by omega⟩ ⟨by omega, by omega⟩) ?_
        refine go_to (k := 6) (pc' := 72) (L' := [some (.inr (.inr (some 79))), some (.inl 5)]) (st' := [.inl 3, .inl 1, .inr (.inr (some 79))]) (w' := (SH, (u2 dt480 82 ((5 * (dt480 79 10)).toNat) 5))) (fun _ => rfl) ?_
        refine go_call (Q' := _) rfl rfl rfl rfl rfl (sp_X6_argument L xs sio (d + 0) (u2 dt480 82 ((5 * (dt480 79 10)).toNat) 5) hI492  1 ⟨by omega, by omega⟩ 3 ⟨by omega, by omega⟩ (by first | trivial | omega) (by first | trivial | omega)) ?_
        rintro _ _ ⟨dt513, rfl, hI514, hF515, h512⟩
        refine ⟨rfl, ?_⟩
        have hF516 : Fr [79, 82] dt dt513 := Fr_tr hF493 hF515 (by decide)
        have E84517 : dt513 84 = dt 84 := (funext (hF515 84 (by decide))).trans E84504
        rcases h512 with ⟨rfl, h512⟩ | ⟨rfl, h512⟩
        · skip
          obtain ⟨h512_0, h512_1, h512_2, h512_3⟩ := h512
          refine go_ret (k := 3) (r := some (.inl 0)) (w1 := (SH, dt513)) (fun _ => rfl) ?_
          exact ⟨dt513, rfl, hI514, hF516, (Or.inl ⟨rfl, ⟨by first | trivial | omega, by first | trivial | omega, by first | trivial | omega⟩⟩)⟩
        · skip
          obtain ⟨h512_0, h512_1, h512_2, h512_3, h512_4, h512_5, h512_6, h512_7, h512_8, h512_9, h512_10⟩ := h512
          have BL518 : ∀ j : Nat, (j : Int) < 5 * dt 79 10 → dt513 82 j = dt 82 j := fun j hj => (h512_0 j (by omega)).trans (BL505 j hj)
          have y519 : dt513 82 ((5 * (dt 79 10))).toNat = (u2 dt480 82 ((5 * (dt480 79 10)).toNat) 5) 82 ((5 * (dt 79 10))).toNat := h512_0 ((5 * (dt 79 10))).toNat (by omega)
          have y520 : dt513 82 ((5 * (dt 79 10)) + 2).toNat = (u2 dt480 82 ((5 * (dt480 79 10)).toNat) 5) 82 ((5 * (dt 79 10)) + 2).toNat := h512_0 ((5 * (dt 79 10)) + 2).toNat (by omega)
          have y521 : dt513 82 ((5 * (dt 79 10)) + 3).toNat = (u2 dt480 82 ((5 * (dt480 79 10)).toNat) 5) 82 ((5 * (dt 79 10)) + 3).toNat := h512_0 ((5 * (dt 79 10)) + 3).toNat (by omega)
          have y522 : dt513 82 ((5 * (dt 79 10)) + 4).toNat = (u2 dt480 82 ((5 * (dt480 79 10)).toNat) 5) 82 ((5 * (dt 79 10)) + 4).toNat := h512_0 ((5 * (dt 79 10)) + 4).toNat (by omega)
          have y523 := h512_1 ((5 * (dt 79 10)) + 1) (by omega)
          refine go_to (k := 28) (pc' := 179) (L' := [some (.inr (.inr (some 79))), some (.inl 5)]) (st' := [.inl 3, .inl 3, .inr (.inr (some 79))]) (w' := (SH, dt513)) (fun _ => rfl) ?_
          refine go_call (Q' := _) rfl rfl rfl rfl rfl (sp_X6_argument L xs sio (d + 0) dt513 hI514  3 ⟨by omega, by omega⟩ 3 ⟨by omega, by omega⟩ (by first | trivial | omega) (by first | trivial | omega)) ?_
          rintro _ _ ⟨dt525, rfl, hI526, hF527, h524⟩
          refine ⟨rfl, ?_⟩
          have hF528 : Fr [79, 82] dt dt525 := Fr_tr hF516 hF527 (by decide)
          have E84529 : dt525 84 = dt 84 := (funext (hF527 84 (by decide))).trans E84517
          rcases h524 with ⟨rfl, h524⟩ | ⟨rfl, h524⟩
          · skip
            obtain ⟨h524_0, h524_1, h524_2, h524_3⟩ := h524
            refine go_ret (k := 3) (r := some (.inl 0)) (w1 := (SH, dt525)) (fun _ => rfl) ?_
            exact ⟨dt525, rfl, hI526, hF528, (Or.inl ⟨rfl, ⟨by first | trivial | omega, by first | trivial | omega, by first | trivial | omega⟩⟩)⟩
          · skip
            obtain ⟨h524_0, h524_1, h524_2, h524_3, h524_4, h524_5, h524_6, h524_7, h524_8, h524_9, h524_10⟩ := h524
            have BL530 : ∀ j : Nat, (j : Int) < 5 * dt 79 10 → dt525 82 j = dt 82 j := fun j hj => (h524_0 j (by omega)).trans (BL518 j hj)
            have y531 : dt525 82 ((5 * (dt 79 10))).toNat = dt513 82 ((5 * (dt 79 10))).toNat := h524_0 ((5 * (dt 79 10))).toNat (by omega)
            have y532 : dt525 82 ((5 * (dt 79 10)) + 1).toNat = dt513 82 ((5 * (dt 79 10)) + 1).toNat := h524_0 ((5 * (dt 79 10)) + 1).toNat (by omega)
            have y533 : dt525 82 ((5 * (dt 79 10)) + 2).toNat = dt513 82 ((5 * (dt 79 10)) + 2).toNat := h524_0 ((5 * (dt 79 10)) + 2).toNat (by omega)
            have y534 : dt525 82 ((5 * (dt 79 10)) + 4).toNat = dt513 82 ((5 * (dt 79 10)) + 4).toNat := h524_0 ((5 * (dt 79 10)) + 4).toNat (by omega)
            have y535 := h524_1 ((5 * (dt 79 10)) + 3) (by omega)
            refine go_to (k := 6) (pc' := 208) (L' := [some (.inr (.inr (some 79))), some (.inl 5)]) (st' := [.inl 159, .inr (.inr (some 79))]) (w' := (SH, dt525)) (fun _ => rfl) ?_
            refine go_call (Q' := _) rfl rfl rfl rfl rfl (sp_X6_need0 L xs sio (d + 1) dt525 hI526  159 ⟨by omega, by omega⟩ (by first | trivial | omega)) ?_
            rintro _ _ ⟨dt537, rfl, hI538, hF539, h536⟩
            refine ⟨rfl, ?_⟩
            have hF540 : Fr [79, 82] dt dt537 := Fr_tr hF528 hF539 (by decide)
            have E84541 : dt537 84 = dt 84 := (funext (hF539 84 (by decide))).trans E84529
            rcases h536 with ⟨rfl, h536⟩ | ⟨rfl, h536⟩
            · skip
              obtain ⟨h536_0, h536_1, h536_2, h536_3⟩ := h536
              have BL542 : ∀ j : Nat, (j : Int) < 5 * dt 79 10 → dt537 82 j = dt 82 j := fun j hj => (hF539 82 (by decide) j).trans (BL530 j hj)
              have y543 : dt537 82 ((5 * (dt 79 10))).toNat = dt525 82 ((5 * (dt 79 10))).toNat := hF539 82 (by decide) _
              have y544 : dt537 82 ((5 * (dt 79 10)) + 1).toNat = dt525 82 ((5 * (dt 79 10)) + 1).toNat := hF539 82 (by decide) _
              have y545 : dt537 82 ((5 * (dt 79 10)) + 2).toNat = dt525 82 ((5 * (dt 79 10)) + 2).toNat := hF539 82 (by decide) _
              have y546 : dt537 82 ((5 * (dt 79 10)) + 3).toNat = dt525 82 ((5 * (dt 79 10)) + 3).toNat := hF539 82 (by decide) _
              have y547 : dt537 82 ((5 * (dt 79 10)) + 4).toNat = dt525 82 ((5 * (dt 79 10)) + 4).toNat := hF539 82 (by decide) _
              refine go_ret (k := 1) (r := some (.inl 0)) (w1 := (SH, dt537)) (fun _ => rfl) ?_
              exact ⟨dt537, rfl, hI538, hF540, (Or.inl ⟨rfl, ⟨by first | trivial | omega, by first | trivial | omega, by first | trivial | omega⟩⟩)⟩
            · skip
              obtain ⟨h536_0, h536_1, h536_2, h536_3, h536_4, h536_5, h536_6, h536_7, h536_8⟩ := h536
              have BL548 : ∀ j : Nat, (j : Int) < 5 * dt 79 10 → dt537 82 j = dt 82 j := fun j hj => (hF539 82 (by decide) j).trans (BL530 j hj)
              have y549 : dt537 82 ((5 * (dt 79 10))).toNat = dt525 82 ((5 * (dt 79 10))).toNat := hF539 82 (by decide) _
              have y550 : dt537 82 ((5 * (dt 79 10)) + 1).toNat = dt525 82 ((5 * (dt 79 10)) + 1).toNat := hF539 82 (by decide) _
              have y551 : dt537 82 ((5 * (dt 79 10)) + 2).toNat = dt525 82 ((5 * (dt 79 10)) + 2).toNat := hF539 82 (by decide) _
              have y552 : dt537 82 ((5 * (dt 79 10)) + 3).toNat = dt525 82 ((5 * (dt 79 10)) + 3).toNat := hF539 82 (by decide) _
              have y553 : dt537 82 ((5 * (dt 79 10)) + 4).toNat = dt525 82 ((5 * (dt 79 10)) + 4).toNat := hF539 82 (by decide) _
              refine go_ret (k := 1) (r := some (.inl 1)) (w1 := (SH, dt537)) (fun _ => rfl) ?_
              exact ⟨dt537, rfl, hI538, hF540, (Or.inr ⟨rfl, ⟨by first | trivial | omega, by exact BL548, by unfold aOK; omega, by first | trivial | omega, by first | trivial | omega, by exact (InvC_get (by assumption) 79 15 rfl rfl).2, by first | trivial | omega, by first | trivial | omega, by first | trivial | omega, by first | trivial | omega, by first | trivial | omega⟩⟩)⟩
      · rw [hc7]
        refine go_to (k := 1) (pc' := 44) (L' := [some (.inr (.inr (some 79))), some (.inl 6)]) (st' := [.inr (.inr (some 79))]) (w' := (SH, dt)) (fun _ => rfl) ?_
        refine go_call (Q' := _) rfl rfl rfl rfl rfl (sp_X6_next0 L xs sio (d + 2) dt hI   (by first | trivial | omega)) ?_
        rintro _ _ ⟨dt555, rfl, hI556, hF557, h554⟩
        refine ⟨rfl, ?_⟩
        have hF558 : Fr [79, 82] dt dt555 := Fr_tr hF hF557 (by decide)
        have E84559 : dt555 84 = dt 84 := funext (hF557 84 (by decide))
        rcases h554 with ⟨rfl, h554⟩
        obtain ⟨h554_0, h554_1, h554_2, h554_3, h554_4, h554_5, h554_6, h554_7, h554_8⟩ := h554
        have BL560 : ∀ j : Nat, (j : Int) < 5 * dt 79 10 → dt555 82 j = dt 82 j := fun j hj => (hF557 82 (by decide) j).trans ((fun _ _ => rfl) j hj)
        have y561 : dt555 82 ((5 * (dt 79 10))).toNat = dt 82 ((5 * (dt 79 10))).toNat := hF557 82 (by decide) _
        have y562 : dt555 82 ((5 * (dt 79 10)) + 1).toNat = dt 82 ((5 * (dt 79 10)) + 1).toNat := hF557 82 (by decide) _
        have y563 : dt555 82 ((5 * (dt 79 10)) + 2).toNat = dt 82 ((5 * (dt 79 10)) + 2).toNat := hF557 82 (by decide) _
        have y564 : dt555 82 ((5 * (dt 79 10)) + 3).toNat = dt 82 ((5 * (dt 79 10)) + 3).toNat := hF557 82 (by decide) _
        have y565 : dt555 82 ((5 * (dt 79 10)) + 4).toNat = dt 82 ((5 * (dt 79 10)) + 4).toNat := hF557 82 (by decide) _
        have r566 : 0 ≤ dt555 79 10 ∧ dt555 79 10 ≤ 24 := InvC_get hI556 79 10 rfl rfl
        refine go_to (k := 7) (pc' := 58) (L' := [some (.inr (.inr (some 79))), some (.inl 6)]) (st' := [.inl 6, .inl (5 * (dt555 79 10)), .inr (.inr (some 82))]) (w' := (SH, dt555)) (fun _ => rfl) ?_
        have hI567 : InvC (u2 dt555 82 ((5 * (dt555 79 10)).toNat) 6) := InvC_u2 hI556 (lo := -2147483648) (hi := 2147483647) rfl rfl rfl (by omega) (by omega)
        have hF568 : Fr [79, 82] dt (u2 dt555 82 ((5 * (dt555 79 10)).toNat) 6) := Fr_u2 hF558 (by decide)
        have w569 : (u2 dt555 82 ((5 * (dt555 79 10)).toNat) 6) 79 2 = dt555 79 2 := rfl
        have w570 : (u2 dt555 82 ((5 * (dt555 79 10)).toNat) 6) 79 9 = dt555 79 9 := rfl
        have w571 : (u2 dt555 82 ((5 * (dt555 79 10)).toNat) 6) 79 10 = dt555 79 10 := rfl
        have w572 : (u2 dt555 82 ((5 * (dt555 79 10)).toNat) 6) 79 11 = dt555 79 11 := rfl
        have w573 : (u2 dt555 82 ((5 * (dt555 79 10)).toNat) 6) 79 12 = dt555 79 12 := rfl
        have w574 : (u2 dt555 82 ((5 * (dt555 79 10)).toNat) 6) 79 13 = dt555 79 13 := rfl
        have w575 : (u2 dt555 82 ((5 * (dt555 79 10)).toNat) 6) 79 14 = dt555 79 14 := rfl
        have w576 : (u2 dt555 82 ((5 * (dt555 79 10)).toNat) 6) 79 15 = dt555 79 15 := rfl
        have w577 : (u2 dt555 82 ((5 * (dt555 79 10)).toNat) 6) 79 16 = dt555 79 16 := rfl
        have w578 : (u2 dt555 82 ((5 * (dt555 79 10)).toNat) 6) 79 20 = dt555 79 20 := rfl
        have E84579 : (u2 dt555 82 ((5 * (dt555 79 10)).toNat) 6) 84 = dt 84 := (funext fun _ => u2_ne (by omega)).trans E84559
        have ex581 : ((5 * (dt 79 10))).toNat = (5 * (dt555 79 10)).toNat := by omega
        have BL580 : ∀ j : Nat, (j : Int) < 5 * dt 79 10 → (u2 dt555 82 ((5 * (dt555 79 10)).toNat) 6) 82 j = dt 82 j := fun j hj => (u2_ne (by omega)).trans (BL560 j hj)
        have y582 : (u2 dt555 82 ((5 * (dt555 79 10)).toNat) 6) 82 ((5 * (dt 79 10))).toNat = 6 := by rw [ex581]; exact u2_eq
        have y583 : (u2 dt555 82 ((5 * (dt555 79 10)).toNat) 6) 82 ((5 * (dt 79 10)) + 1).toNat = dt555 82 ((5 * (dt 79 10)) + 1).toNat := u2_ne (by omega)
        have y584 : (u2 dt555 82 ((5 * (dt555 79 10)).toNat) 6) 82 ((5 * (dt 79 10)) + 2).toNat = dt555 82 ((5 * (dt 79 10)) + 2).toNat := u2_ne (by omega)
        have y585 : (u2 dt555 82 ((5 * (dt555 79 10)).toNat) 6) 82 ((5 * (dt 79 10)) + 3).toNat = dt555 82 ((5 * (dt 79 10)) + 3).toNat := u2_ne (by omega)
        have y586 : (u2 dt555 82 ((5 * (dt555 79 10)).toNat) 6) 82 ((5 * (dt 79 10)) + 4).toNat = dt555 82 ((5 * (dt 79 10)) + 4).toNat := u2_ne (by omega)
        refine go_smp (L' := [some (.inr (.inr (some 79))), some (.inl 6)]) (st' := []) (w' := (SH, (u2 dt555 82 ((5 * (dt555 79 10)).toNat) 6))) rfl rfl (s_iast (n := 120) rfl ⟨by omega, by omega⟩ ⟨by omega, by omega⟩) ?_
        refine go_to (k := 6) (pc' := 72) (L' := [some (.inr (.inr (some 79))), some (.inl 6)]) (st' := [.inl 3, .inl 1, .inr (.inr (some 79))]) (w' := (SH, (u2 dt555 82 ((5 * (dt555 79 10)).toNat) 6))) (fun _ => rfl) ?_
        refine go_call (Q' := _) rfl rfl rfl rfl rfl (sp_X6_argument L xs sio (d + 0) (u2 dt555 82 ((5 * (dt555 79 10)).toNat) 6) hI567  1 ⟨by omega, by omega⟩ 3 ⟨by omega, by omega⟩ (by first | trivial | omega) (by first | trivial | omega)) ?_
        rintro _ _ ⟨dt588, rfl, hI589, hF590, h587⟩
        refine ⟨rfl, ?_⟩
        have hF591 : Fr [79, 82] dt dt588 := Fr_tr hF568 hF590 (by decide)
        have E84592 : dt588 84 = dt 84 := (funext (hF590 84 (by decide))).trans E84579
        rcases h587 with ⟨rfl, h587⟩ | ⟨rfl, h587⟩
        · skip
          obtain ⟨h587_0, h587_1, h587_2, h587_3⟩ := h587
          refine go_ret (k := 3) (r := some (.inl 0)) (w1 := (SH, dt588)) (fun _ => rfl) ?_
          exact ⟨dt588, rfl, hI589, hF591, (Or.inl ⟨rfl, ⟨by first | trivial | omega, by first | trivial | omega, by first | trivial | omega⟩⟩)⟩
        · skip
          obtain ⟨h587_0, h587_1, h587_2, h587_3, h587_4, h587_5, h587_6, h587_7, h587_8, h587_9, h587_10⟩ := h587
          have BL593 : ∀ j : Nat, (j : Int) < 5 * dt 79 10 → dt588 82 j = dt 82 j := fun j hj => (h587_0 j (by omega)).trans (BL580 j hj)
          have y594 : dt588 82 ((5 * (dt 79 10))).toNat = (u2 dt555 82 ((5 * (dt555 79 10)).toNat) 6) 82 ((5 * (dt 79 10))).toNat := h587_0 ((5 * (dt 79 10))).toNat (by omega)
          have y595 : dt588 82 ((5 * (dt 79 10)) + 2).toNat = (u2 dt555 82 ((5 * (dt555 79 10)).toNat) 6) 82 ((5 * (dt 79 10)) + 2).toNat := h587_0 ((5 * (dt 79 10)) + 2).toNat (by omega)
          have y596 : dt588 82 ((5 * (dt 79 10)) + 3).toNat = (u2 dt555 82 ((5 * (dt555 79 10)).toNat) 6) 82 ((5 * (dt 79 10)) + 3).toNat := h587_0 ((5 * (dt 79 10)) + 3).toNat (by omega)
          have y597 : dt588 82 ((5 * (dt 79 10)) + 4).toNat = (u2 dt555 82 ((5 * (dt555 79 10)).toNat) 6) 82 ((5 * (dt 79 10)) + 4).toNat := h587_0 ((5 * (dt 79 10)) + 4).toNat (by omega)
          have y598 := h587_1 ((5 * (dt 79 10)) + 1) (by omega)
          refine go_to (k := 31) (pc' := 196) (L' := [some (.inr (.inr (some 79))), some (.inl 6)]) (st' := [.inl 1, .inl 3, .inr (.inr (some 79))]) (w' := (SH, dt588)) (fun _ => rfl) ?_
          refine go_call (Q' := _) rfl rfl rfl rfl rfl (sp_X6_argument L xs sio (d + 0) dt588 hI589  3 ⟨by omega, by omega⟩ 1 ⟨by omega, by omega⟩ (by first | trivial | omega) (by first | trivial | omega)) ?_
          rintro _ _ ⟨dt600, rfl, hI601, hF602, h599⟩
          refine ⟨rfl, ?_⟩
          have hF603 : Fr [79, 82] dt dt600 := Fr_tr hF591 hF602 (by decide)
          have E84604 : dt600 84 = dt 84 := (funext (hF602 84 (by decide))).trans E84592
          rcases h599 with ⟨rfl, h599⟩ | ⟨rfl, h599⟩
          · skip
            obtain ⟨h599_0, h599_1, h599_2, h599_3⟩ := h599
            refine go_ret (k := 3) (r := some (.inl 0)) (w1 := (SH, dt600)) (fun _ => rfl) ?_
            exact ⟨dt600, rfl, hI601, hF603, (Or.inl ⟨rfl, ⟨by first | trivial | omega, by first | trivial | omega, by first | trivial | omega⟩⟩)⟩
          · skip
            obtain ⟨h599_0, h599_1, h599_2, h599_3, h599_4, h599_5, h599_6, h599_7, h599_8, h599_9, h599_10⟩ := h599
            have BL605 : ∀ j : Nat, (j : Int) < 5 * dt 79 10 → dt600 82 j = dt 82 j := fun j hj => (h599_0 j (by omega)).trans (BL593 j hj)
            have y606 : dt600 82 ((5 * (dt 79 10))).toNat = dt588 82 ((5 * (dt 79 10))).toNat := h599_0 ((5 * (dt 79 10))).toNat (by omega)
            have y607 : dt600 82 ((5 * (dt 79 10)) + 1).toNat = dt588 82 ((5 * (dt 79 10)) + 1).toNat := h599_0 ((5 * (dt 79 10)) + 1).toNat (by omega)
            have y608 : dt600 82 ((5 * (dt 79 10)) + 2).toNat = dt588 82 ((5 * (dt 79 10)) + 2).toNat := h599_0 ((5 * (dt 79 10)) + 2).toNat (by omega)
            have y609 : dt600 82 ((5 * (dt 79 10)) + 4).toNat = dt588 82 ((5 * (dt 79 10)) + 4).toNat := h599_0 ((5 * (dt 79 10)) + 4).toNat (by omega)
            have y610 := h599_1 ((5 * (dt 79 10)) + 3) (by omega)
            refine go_to (k := 3) (pc' := 208) (L' := [some (.inr (.inr (some 79))), some (.inl 6)]) (st' := [.inl 159, .inr (.inr (some 79))]) (w' := (SH, dt600)) (fun _ => rfl) ?_
            refine go_call (Q' := _) rfl rfl rfl rfl rfl (sp_X6_need0 L xs sio (d + 1) dt600 hI601  159 ⟨by omega, by omega⟩ (by first | trivial | omega)) ?_
            rintro _ _ ⟨dt612, rfl, hI613, hF614, h611⟩
            refine ⟨rfl, ?_⟩
            have hF615 : Fr [79, 82] dt dt612 := Fr_tr hF603 hF614 (by decide)
            have E84616 : dt612 84 = dt 84 := (funext (hF614 84 (by decide))).trans E84604
            rcases h611 with ⟨rfl, h611⟩ | ⟨rfl, h611⟩
            · skip
              obtain ⟨h611_0, h611_1, h611_2, h611_3⟩ := h611
              have BL617 : ∀ j : Nat, (j : Int) < 5 * dt 79 10 → dt612 82 j = dt 82 j := fun j hj => (hF614 82 (by decide) j).trans (BL605 j hj)
              have y618 : dt612 82 ((5 * (dt 79 10))).toNat = dt600 82 ((5 * (dt 79 10))).toNat := hF614 82 (by decide) _
              have y619 : dt612 82 ((5 * (dt 79 10)) + 1).toNat = dt600 82 ((5 * (dt 79 10)) + 1).toNat := hF614 82 (by decide) _
              have y620 : dt612 82 ((5 * (dt 79 10)) + 2).toNat = dt600 82 ((5 * (dt 79 10)) + 2).toNat := hF614 82 (by decide) _
              have y621 : dt612 82 ((5 * (dt 79 10)) + 3).toNat = dt600 82 ((5 * (dt 79 10)) + 3).toNat := hF614 82 (by decide) _
              have y622 : dt612 82 ((5 * (dt 79 10)) + 4).toNat = dt600 82 ((5 * (dt 79 10)) + 4).toNat := hF614 82 (by decide) _
              refine go_ret (k := 1) (r := some (.inl 0)) (w1 := (SH, dt612)) (fun _ => rfl) ?_
              exact ⟨dt612, rfl, hI613, hF615, (Or.inl ⟨rfl, ⟨by first | trivial | omega, by first | trivial | omega, by first | trivial | omega⟩⟩)⟩
            · skip
              obtain ⟨h611_0, h611_1, h611_2, h611_3, h611_4, h611_5, h611_6, h611_7, h611_8⟩ := h611
              have BL623 : ∀ j : Nat, (j : Int) < 5 * dt 79 10 → dt612 82 j = dt 82 j := fun j hj => (hF614 82 (by decide) j).trans (BL605 j hj)
              have y624 : dt612 82 ((5 * (dt 79 10))).toNat = dt600 82 ((5 * (dt 79 10))).toNat := hF614 82 (by decide) _
              have y625 : dt612 82 ((5 * (dt 79 10)) + 1).toNat = dt600 82 ((5 * (dt 79 10)) + 1).toNat := hF614 82 (by decide) _
              have y626 : dt612 82 ((5 * (dt 79 10)) + 2).toNat = dt600 82 ((5 * (dt 79 10)) + 2).toNat := hF614 82 (by decide) _
              have y627 : dt612 82 ((5 * (dt 79 10)) + 3).toNat = dt600 82 ((5 * (dt 79 10)) + 3).toNat := hF614 82 (by decide) _
              have y628 : dt612 82 ((5 * (dt 79 10)) + 4).toNat = dt600 82 ((5 * (dt 79 10)) + 4).toNat := hF614 82 (by decide) _
              refine go_ret (k := 1) (r := some (.inl 1)) (w1 := (SH, dt612)) (fun _ => rfl) ?_
              exact ⟨dt612, rfl, hI613, hF615, (Or.inr ⟨rfl, ⟨by first | trivial | omega, by exact BL623, by unfold aOK; omega, by first | trivial | omega, by first | trivial | omega, by exact (InvC_get (by assumption) 79 15 rfl rfl).2, by first | trivial | omega, by first | trivial | omega, by first | trivial | omega, by first | trivial | omega, by first | trivial | omega⟩⟩)⟩
      · rw [hc7]
        refine go_to (k := 1) (pc' := 44) (L' := [some (.inr (.inr (some 79))), some (.inl 7)]) (st' := [.inr (.inr (some 79))]) (w' := (SH, dt)) (fun _ => rfl) ?_
        refine go_call (Q' := _) rfl rfl rfl rfl rfl (sp_X6_next0 L xs sio (d + 2) dt hI   (by first | trivial | omega)) ?_
        rintro _ _ ⟨dt630, rfl, hI631, hF632, h629⟩
        refine ⟨rfl, ?_⟩
        have hF633 : Fr [79, 82] dt dt630 := Fr_tr hF hF632 (by decide)
        have E84634 : dt630 84 = dt 84 := funext (hF632 84 (by decide))
        rcases h629 with ⟨rfl, h629⟩
        obtain ⟨h629_0, h629_1, h629_2, h629_3, h629_4, h629_5, h629_6, h629_7, h629_8⟩ := h629
        have BL635 : ∀ j : Nat, (j : Int) < 5 * dt 79 10 → dt630 82 j = dt 82 j := fun j hj => (hF632 82 (by decide) j).trans ((fun _ _ => rfl) j hj)
        have y636 : dt630 82 ((5 * (dt 79 10))).toNat = dt 82 ((5 * (dt 79 10))).toNat := hF632 82 (by decide) _
        have y637 : dt630 82 ((5 * (dt 79 10)) + 1).toNat = dt 82 ((5 * (dt 79 10)) + 1).toNat := hF632 82 (by decide) _
        have y638 : dt630 82 ((5 * (dt 79 10)) + 2).toNat = dt 82 ((5 * (dt 79 10)) + 2).toNat := hF632 82 (by decide) _
        have y639 : dt630 82 ((5 * (dt 79 10)) + 3).toNat = dt 82 ((5 * (dt 79 10)) + 3).toNat := hF632 82 (by decide) _
        have y640 : dt630 82 ((5 * (dt 79 10)) + 4).toNat = dt 82 ((5 * (dt 79 10)) + 4).toNat := hF632 82 (by decide) _
        have r641 : 0 ≤ dt630 79 10 ∧ dt630 79 10 ≤ 24 := InvC_get hI631 79 10 rfl rfl
        refine go_to (k := 7) (pc' := 58) (L' := [some (.inr (.inr (some 79))), some (.inl 7)]) (st' := [.inl 7, .inl (5 * (dt630 79 10)), .inr (.inr (some 82))]) (w' := (SH, dt630)) (fun _ => rfl) ?_
        have hI642 : InvC (u2 dt630 82 ((5 * (dt630 79 10)).toNat) 7) := InvC_u2 hI631 (lo := -2147483648) (hi := 2147483647) rfl rfl rfl (by omega) (by omega)
        have hF643 : Fr [79, 82] dt (u2 dt630 82 ((5 * (dt630 79 10)).toNat) 7) := Fr_u2 hF633 (by decide)
        have w644 : (u2 dt630 82 ((5 * (dt630 79 10)).toNat) 7) 79 2 = dt630 79 2 := rfl
        have w645 : (u2 dt630 82 ((5 * (dt630 79 10)).toNat) 7) 79 9 = dt630 79 9 := rfl
        have w646 : (u2 dt630 82 ((5 * (dt630 79 10)).toNat) 7) 79 10 = dt630 79 10 := rfl
        have w647 : (u2 dt630 82 ((5 * (dt630 79 10)).toNat) 7) 79 11 = dt630 79 11 := rfl
        have w648 : (u2 dt630 82 ((5 * (dt630 79 10)).toNat) 7) 79 12 = dt630 79 12 := rfl
        have w649 : (u2 dt630 82 ((5 * (dt630 79 10)).toNat) 7) 79 13 = dt630 79 13 := rfl
        have w650 : (u2 dt630 82 ((5 * (dt630 79 10)).toNat) 7) 79 14 = dt630 79 14 := rfl
        have w651 : (u2 dt630 82 ((5 * (dt630 79 10)).toNat) 7) 79 15 = dt630 79 15 := rfl
        have w652 : (u2 dt630 82 ((5 * (dt630 79 10)).toNat) 7) 79 16 = dt630 79 16 := rfl
        have w653 : (u2 dt630 82 ((5 * (dt630 79 10)).toNat) 7) 79 20 = dt630 79 20 := rfl
        have E84654 : (u2 dt630 82 ((5 * (dt630 79 10)).toNat) 7) 84 = dt 84 := (funext fun _ => u2_ne (by omega)).trans E84634
        have ex656 : ((5 * (dt 79 10))).toNat = (5 * (dt630 79 10)).toNat := by omega
        have BL655 : ∀ j : Nat, (j : Int) < 5 * dt 79 10 → (u2 dt630 82 ((5 * (dt630 79 10)).toNat) 7) 82 j = dt 82 j := fun j hj => (u2_ne (by omega)).trans (BL635 j hj)
        have y657 : (u2 dt630 82 ((5 * (dt630 79 10)).toNat) 7) 82 ((5 * (dt 79 10))).toNat = 7 := by rw [ex656]; exact u2_eq
        have y658 : (u2 dt630 82 ((5 * (dt630 79 10)).toNat) 7) 82 ((5 * (dt 79 10)) + 1).toNat = dt630 82 ((5 * (dt 79 10)) + 1).toNat := u2_ne (by omega)
        have y659 : (u2 dt630 82 ((5 * (dt630 79 10)).toNat) 7) 82 ((5 * (dt 79 10)) + 2).toNat = dt630 82 ((5 * (dt 79 10)) + 2).toNat := u2_ne (by omega)
        have y660 : (u2 dt630 82 ((5 * (dt630 79 10)).toNat) 7) 82 ((5 * (dt 79 10)) + 3).toNat = dt630 82 ((5 * (dt 79 10)) + 3).toNat := u2_ne (by omega)
        have y661 : (u2 dt630 82 ((5 * (dt630 79 10)).toNat) 7) 82 ((5 * (dt 79 10)) + 4).toNat = dt630 82 ((5 * (dt 79 10)) + 4).toNat := u2_ne (by omega)
        refine go_smp (L' := [some (.inr (.inr (some 79))), some (.inl 7)]) (st' := []) (w' := (SH, (u2 dt630 82 ((5 * (dt630 79 10)).toNat) 7))) rfl rfl (s_iast (n := 120) rfl ⟨by omega, by omega⟩ ⟨by omega, by omega⟩) ?_
        refine go_to (k := 6) (pc' := 72) (L' := [some (.inr (.inr (some 79))), some (.inl 7)]) (st' := [.inl 3, .inl 1, .inr (.inr (some 79))]) (w' := (SH, (u2 dt630 82 ((5 * (dt630 79 10)).toNat) 7))) (fun _ => rfl) ?_
        refine go_call (Q' := _) rfl rfl rfl rfl rfl (sp_X6_argument L xs sio (d + 0) (u2 dt630 82 ((5 * (dt630 79 10)).toNat) 7) hI642  1 ⟨by omega, by omega⟩ 3 ⟨by omega, by omega⟩ (by first | trivial | omega) (by first | trivial | omega)) ?_
        rintro _ _ ⟨dt663, rfl, hI664, hF665, h662⟩
        refine ⟨rfl, ?_⟩
        have hF666 : Fr [79, 82] dt dt663 := Fr_tr hF643 hF665 (by decide)
        have E84667 : dt663 84 = dt 84 := (funext (hF665 84 (by decide))).trans E84654
        rcases h662 with ⟨rfl, h662⟩ | ⟨rfl, h662⟩
        · skip
          obtain ⟨h662_0, h662_1, h662_2, h662_3⟩ := h662
          refine go_ret (k := 3) (r := some (.inl 0)) (w1 := (SH, dt663)) (fun _ => rfl) ?_
          exact ⟨dt663, rfl, hI664, hF666, (Or.inl ⟨rfl, ⟨by first | trivial | omega, by first | trivial | omega, by first | trivial | omega⟩⟩)⟩
        · skip
          obtain ⟨h662_0, h662_1, h662_2, h662_3, h662_4, h662_5, h662_6, h662_7, h662_8, h662_9, h662_10⟩ := h662
          have BL668 : ∀ j : Nat, (j : Int) < 5 * dt 79 10 → dt663 82 j = dt 82 j := fun j hj => (h662_0 j (by omega)).trans (BL655 j hj)
          have y669 : dt663 82 ((5 * (dt 79 10))).toNat = (u2 dt630 82 ((5 * (dt630 79 10)).toNat) 7) 82 ((5 * (dt 79 10))).toNat := h662_0 ((5 * (dt 79 10))).toNat (by omega)
          have y670 : dt663 82 ((5 * (dt 79 10)) + 2).toNat = (u2 dt630 82 ((5 * (dt630 79 10)).toNat) 7) 82 ((5 * (dt 79 10)) + 2).toNat := h662_0 ((5 * (dt 79 10)) + 2).toNat (by omega)
          have y671 : dt663 82 ((5 * (dt 79 10)) + 3).toNat = (u2 dt630 82 ((5 * (dt630 79 10)).toNat) 7) 82 ((5 * (dt 79 10)) + 3).toNat := h662_0 ((5 * (dt 79 10)) + 3).toNat (by omega)
          have y672 : dt663 82 ((5 * (dt 79 10)) + 4).toNat = (u2 dt630 82 ((5 * (dt630 79 10)).toNat) 7) 82 ((5 * (dt 79 10)) + 4).toNat := h662_0 ((5 * (dt 79 10)) + 4).toNat (by omega)
          have y673 := h662_1 ((5 * (dt 79 10)) + 1) (by omega)
          refine go_to (k := 30) (pc' := 208) (L' := [some (.inr (.inr (some 79))), some (.inl 7)]) (st' := [.inl 159, .inr (.inr (some 79))]) (w' := (SH, dt663)) (fun _ => rfl) ?_
          refine go_call (Q' := _) rfl rfl rfl rfl rfl (sp_X6_need0 L xs sio (d + 1) dt663 hI664  159 ⟨by omega, by omega⟩ (by first | trivial | omega)) ?_
          rintro _ _ ⟨dt675, rfl, hI676, hF677, h674⟩
          refine ⟨rfl, ?_⟩
          have hF678 : Fr [79, 82] dt dt675 := Fr_tr hF666 hF677 (by decide)
          have E84679 : dt675 84 = dt 84 := (funext (hF677 84 (by decide))).trans E84667
          rcases h674 with ⟨rfl, h674⟩ | ⟨rfl, h674⟩
          · skip
            obtain ⟨h674_0, h674_1, h674_2, h674_3⟩ := h674
            have BL680 : ∀ j : Nat, (j : Int) < 5 * dt 79 10 → dt675 82 j = dt 82 j := fun j hj => (hF677 82 (by decide) j).trans (BL668 j hj)
            have y681 : dt675 82 ((5 * (dt 79 10))).toNat = dt663 82 ((5 * (dt 79 10))).toNat := hF677 82 (by decide) _
            have y682 : dt675 82 ((5 * (dt 79 10)) + 1).toNat = dt663 82 ((5 * (dt 79 10)) + 1).toNat := hF677 82 (by decide) _
            have y683 : dt675 82 ((5 * (dt 79 10)) + 2).toNat = dt663 82 ((5 * (dt 79 10)) + 2).toNat := hF677 82 (by decide) _
            have y684 : dt675 82 ((5 * (dt 79 10)) + 3).toNat = dt663 82 ((5 * (dt 79 10)) + 3).toNat := hF677 82 (by decide) _
            have y685 : dt675 82 ((5 * (dt 79 10)) + 4).toNat = dt663 82 ((5 * (dt 79 10)) + 4).toNat := hF677 82 (by decide) _
            refine go_ret (k := 1) (r := some (.inl 0)) (w1 := (SH, dt675)) (fun _ => rfl) ?_
            exact ⟨dt675, rfl, hI676, hF678, (Or.inl ⟨rfl, ⟨by first | trivial | omega, by first | trivial | omega, by first | trivial | omega⟩⟩)⟩
          · skip
            obtain ⟨h674_0, h674_1, h674_2, h674_3, h674_4, h674_5, h674_6, h674_7, h674_8⟩ := h674
            have BL686 : ∀ j : Nat, (j : Int) < 5 * dt 79 10 → dt675 82 j = dt 82 j := fun j hj => (hF677 82 (by decide) j).trans (BL668 j hj)
            have y687 : dt675 82 ((5 * (dt 79 10))).toNat = dt663 82 ((5 * (dt 79 10))).toNat := hF677 82 (by decide) _
            have y688 : dt675 82 ((5 * (dt 79 10)) + 1).toNat = dt663 82 ((5 * (dt 79 10)) + 1).toNat := hF677 82 (by decide) _
            have y689 : dt675 82 ((5 * (dt 79 10)) + 2).toNat = dt663 82 ((5 * (dt 79 10)) + 2).toNat := hF677 82 (by decide) _
            have y690 : dt675 82 ((5 * (dt 79 10)) + 3).toNat = dt663 82 ((5 * (dt 79 10)) + 3).toNat := hF677 82 (by decide) _
            have y691 : dt675 82 ((5 * (dt 79 10)) + 4).toNat = dt663 82 ((5 * (dt 79 10)) + 4).toNat := hF677 82 (by decide) _
            refine go_ret (k := 1) (r := some (.inl 1)) (w1 := (SH, dt675)) (fun _ => rfl) ?_
            exact ⟨dt675, rfl, hI676, hF678, (Or.inr ⟨rfl, ⟨by first | trivial | omega, by exact BL686, by unfold aOK; omega, by first | trivial | omega, by first | trivial | omega, by exact (InvC_get (by assumption) 79 15 rfl rfl).2, by first | trivial | omega, by first | trivial | omega, by first | trivial | omega, by first | trivial | omega, by first | trivial | omega⟩⟩)⟩
      · rw [hc7]
        refine go_to (k := 1) (pc' := 44) (L' := [some (.inr (.inr (some 79))), some (.inl 8)]) (st' := [.inr (.inr (some 79))]) (w' := (SH, dt)) (fun _ => rfl) ?_
        refine go_call (Q' := _) rfl rfl rfl rfl rfl (sp_X6_next0 L xs sio (d + 2) dt hI   (by first | trivial | omega)) ?_
        rintro _ _ ⟨dt693, rfl, hI694, hF695, h692⟩
        refine ⟨rfl, ?_⟩
        have hF696 : Fr [79, 82] dt dt693 := Fr_tr hF hF695 (by decide)
        have E84697 : dt693 84 = dt 84 := funext (hF695 84 (by decide))
        rcases h692 with ⟨rfl, h692⟩
        obtain ⟨h692_0, h692_1, h692_2, h692_3, h692_4, h692_5, h692_6, h692_7, h692_8⟩ := h692
        have BL698 : ∀ j : Nat, (j : Int) < 5 * dt 79 10 → dt693 82 j = dt 82 j := fun j hj => (hF695 82 (by decide) j).trans ((fun _ _ => rfl) j hj)
        have y699 : dt693 82 ((5 * (dt 79 10))).toNat = dt 82 ((5 * (dt 79 10))).toNat := hF695 82 (by decide) _
        have y700 : dt693 82 ((5 * (dt 79 10)) + 1).toNat = dt 82 ((5 * (dt 79 10)) + 1).toNat := hF695 82 (by decide) _
        have y701 : dt693 82 ((5 * (dt 79 10)) + 2).toNat = dt 82 ((5 * (dt 79 10)) + 2).toNat := hF695 82 (by decide) _
        have y702 : dt693 82 ((5 * (dt 79 10)) + 3).toNat = dt 82 ((5 * (dt 79 10)) + 3).toNat := hF695 82 (by decide) _
        have y703 : dt693 82 ((5 * (dt 79 10)) + 4).toNat = dt 82 ((5 * (dt 79 10)) + 4).toNat := hF695 82 (by decide) _
        have r704 : 0 ≤ dt693 79 10 ∧ dt693 79 10 ≤ 24 := InvC_get hI694 79 10 rfl rfl
        refine go_to (k := 7) (pc' := 58) (L' := [some (.inr (.inr (some 79))), some (.inl 8)]) (st' := [.inl 8, .inl (5 * (dt693 79 10)), .inr (.inr (some 82))]) (w' := (SH, dt693)) (fun _ => rfl) ?_
        have hI705 : InvC (u2 dt693 82 ((5 * (dt693 79 10)).toNat) 8) := InvC_u2 hI694 (lo := -2147483648) (hi := 2147483647) rfl rfl rfl (by omega) (by omega)
        have hF706 : Fr [79, 82] dt (u2 dt693 82 ((5 * (dt693 79 10)).toNat) 8) := Fr_u2 hF696 (by decide)
        have w707 : (u2 dt693 82 ((5 * (dt693 79 10)).toNat) 8) 79 2 = dt693 79 2 := rfl
        have w708 : (u2 dt693 82 ((5 * (dt693 79 10)).toNat) 8) 79 9 = dt693 79 9 := rfl
        have w709 : (u2 dt693 82 ((5 * (dt693 79 10)).toNat) 8) 79 10 = dt693 79 10 := rfl
        have w710 : (u2 dt693 82 ((5 * (dt693 79 10)).toNat) 8) 79 11 = dt693 79 11 := rfl
        have w711 : (u2 dt693 82 ((5 * (dt693 79 10)).toNat) 8) 79 12 = dt693 79 12 := rfl
        have w712 : (u2 dt693 82 ((5 * (dt693 79 10)).toNat) 8) 79 13 = dt693 79 13 := rfl
        have w713 : (u2 dt693 82 ((5 * (dt693 79 10)).toNat) 8) 79 14 = dt693 79 14 := rfl
        have w714 : (u2 dt693 82 ((5 * (dt693 79 10)).toNat) 8) 79 15 = dt693 79 15 := rfl
        have w715 : (u2 dt693 82 ((5 * (dt693 79 10)).toNat) 8) 79 16 = dt693 79 16 := rfl
        have w716 : (u2 dt693 82 ((5 * (dt693 79 10)).toNat) 8) 79 20 = dt693 79 20 := rfl
        have E84717 : (u2 dt693 82 ((5 * (dt693 79 10)).toNat) 8) 84 = dt 84 := (funext fun _ => u2_ne (by omega)).trans E84697
        have ex719 : ((5 * (dt 79 10))).toNat = (5 * (dt693 79 10)).toNat := by omega
        have BL718 : ∀ j : Nat, (j : Int) < 5 * dt 79 10 → (u2 dt693 82 ((5 * (dt693 79 10)).toNat) 8) 82 j = dt 82 j := fun j hj => (u2_ne (by omega)).trans (BL698 j hj)
        have y720 : (u2 dt693 82 ((5 * (dt693 79 10)).toNat) 8) 82 ((5 * (dt 79 10))).toNat = 8 := by rw [ex719]; exact u2_eq
        have y721 : (u2 dt693 82 ((5 * (dt693 79 10)).toNat) 8) 82 ((5 * (dt 79 10)) + 1).toNat = dt693 82 ((5 * (dt 79 10)) + 1).toNat := u2_ne (by omega)
        have y722 : (u2 dt693 82 ((5 * (dt693 79 10)).toNat) 8) 82 ((5 * (dt 79 10)) + 2).toNat = dt693 82 ((5 * (dt 79 10)) + 2).toNat := u2_ne (by omega)
        have y723 : (u2 dt693 82 ((5 * (dt693 79 10)).toNat) 8) 82 ((5 * (dt 79 10)) + 3).toNat = dt693 82 ((5 * (dt 79 10)) + 3).toNat := u2_ne (by omega)
        have y724 : (u2 dt693 82 ((5 * (dt693 79 10)).toNat) 8) 82 ((5 * (dt 79 10)) + 4).toNat = dt693 82 ((5 * (dt 79 10)) + 4).toNat := u2_ne (by omega)
        refine go_smp (L' := [some (.inr (.inr (some 79))), some (.inl 8)]) (st' := []) (w' := (SH, (u2 dt693 82 ((5 * (dt693 79 10)).toNat) 8))) rfl rfl (s_iast (n := 120) rfl ⟨by omega, by omega⟩ ⟨by omega, by omega⟩) ?_
        refine go_to (k := 7) (pc' := 72) (L' := [some (.inr (.inr (some 79))), some (.inl 8)]) (st' := [.inl 1, .inl 1, .inr (.inr (some 79))]) (w' := (SH, (u2 dt693 82 ((5 * (dt693 79 10)).toNat) 8))) (fun _ => rfl) ?_
        refine go_call (Q' := _) rfl rfl rfl rfl rfl (sp_X6_argument L xs sio (d + 0) (u2 dt693 82 ((5 * (dt693 79 10)).toNat) 8) hI705  1 ⟨by omega, by omega⟩ 1 ⟨by omega, by omega⟩ (by first | trivial | omega) (by first | trivial | omega)) ?_
        rintro _ _ ⟨dt726, rfl, hI727, hF728, h725⟩
        refine ⟨rfl, ?_⟩
        have hF729 : Fr [79, 82] dt dt726 := Fr_tr hF706 hF728 (by decide)
        have E84730 : dt726 84 = dt 84 := (funext (hF728 84 (by decide))).trans E84717
        rcases h725 with ⟨rfl, h725⟩ | ⟨rfl, h725⟩
        · skip
          obtain ⟨h725_0, h725_1, h725_2, h725_3⟩ := h725
          refine go_ret (k := 3) (r := some (.inl 0)) (w1 := (SH, dt726)) (fun _ => rfl) ?_
          exact ⟨dt726, rfl, hI727, hF729, (Or.inl ⟨rfl, ⟨by first | trivial | omega, by first | trivial | omega, by first | trivial | omega⟩⟩)⟩
        · skip
          obtain ⟨h725_0, h725_1, h725_2, h725_3, h725_4, h725_5, h725_6, h725_7, h725_8, h725_9, h725_10⟩ := h725
          have BL731 : ∀ j : Nat, (j : Int) < 5 * dt 79 10 → dt726 82 j = dt 82 j := fun j hj => (h725_0 j (by omega)).trans (BL718 j hj)
          have y732 : dt726 82 ((5 * (dt 79 10))).toNat = (u2 dt693 82 ((5 * (dt693 79 10)).toNat) 8) 82 ((5 * (dt 79 10))).toNat := h725_0 ((5 * (dt 79 10))).toNat (by omega)
          have y733 : dt726 82 ((5 * (dt 79 10)) + 2).toNat = (u2 dt693 82 ((5 * (dt693 79 10)).toNat) 8) 82 ((5 * (dt 79 10)) + 2).toNat := h725_0 ((5 * (dt 79 10)) + 2).toNat (by omega)
          have y734 : dt726 82 ((5 * (dt 79 10)) + 3).toNat = (u2 dt693 82 ((5 * (dt693 79 10)).toNat) 8) 82 ((5 * (dt 79 10)) + 3).toNat := h725_0 ((5 * (dt 79 10)) + 3).toNat (by omega)
          have y735 : dt726 82 ((5 * (dt 79 10)) + 4).toNat = (u2 dt693 82 ((5 * (dt693 79 10)).toNat) 8) 82 ((5 * (dt 79 10)) + 4).toNat := h725_0 ((5 * (dt 79 10)) + 4).toNat (by omega)
          have y736 := h725_1 ((5 * (dt 79 10)) + 1) (by omega)
          refine go_to (k := 30) (pc' := 208) (L' := [some (.inr (.inr (some 79))), some (.inl 8)]) (st' := [.inl 159, .inr (.inr (some 79))]) (w' := (SH, dt726)) (fun _ => rfl) ?_
          refine go_call (Q' := _) rfl rfl rfl rfl rfl (sp_X6_need0 L xs sio (d + 1) dt726 hI727  159 ⟨by omega, by omega⟩ (by first | trivial | omega)) ?_
          rintro _ _ ⟨dt738, rfl, hI739, hF740, h737⟩
          refine ⟨rfl, ?_⟩
          have hF741 : Fr [79, 82] dt dt738 := Fr_tr hF729 hF740 (by decide)
          have E84742 : dt738 84 = dt 84 := (funext (hF740 84 (by decide))).trans E84730
          rcases h737 with ⟨rfl, h737⟩ | ⟨rfl, h737⟩
          · skip
            obtain ⟨h737_0, h737_1, h737_2, h737_3⟩ := h737
            have BL743 : ∀ j : Nat, (j : Int) < 5 * dt 79 10 → dt738 82 j = dt 82 j := fun j hj => (hF740 82 (by decide) j).trans (BL731 j hj)
            have y744 : dt738 82 ((5 * (dt 79 10))).toNat = dt726 82 ((5 * (dt 79 10))).toNat := hF740 82 (by decide) _
            have y745 : dt738 82 ((5 * (dt 79 10)) + 1).toNat = dt726 82 ((5 * (dt 79 10)) + 1).toNat := hF740 82 (by decide) _
            have y746 : dt738 82 ((5 * (dt 79 10)) + 2).toNat = dt726 82 ((5 * (dt 79 10)) + 2).toNat := hF740 82 (by decide) _
            have y747 : dt738 82 ((5 * (dt 79 10)) + 3).toNat = dt726 82 ((5 * (dt 79 10)) + 3).toNat := hF740 82 (by decide) _
            have y748 : dt738 82 ((5 * (dt 79 10)) + 4).toNat = dt726 82 ((5 * (dt 79 10)) + 4).toNat := hF740 82 (by decide) _
            refine go_ret (k := 1) (r := some (.inl 0)) (w1 := (SH, dt738)) (fun _ => rfl) ?_
            exact ⟨dt738, rfl, hI739, hF741, (Or.inl ⟨rfl, ⟨by first | trivial | omega, by first | trivial | omega, by first | trivial | omega⟩⟩)⟩
          · skip
            obtain ⟨h737_0, h737_1, h737_2, h737_3, h737_4, h737_5, h737_6, h737_7, h737_8⟩ := h737
            have BL749 : ∀ j : Nat, (j : Int) < 5 * dt 79 10 → dt738 82 j = dt 82 j := fun j hj => (hF740 82 (by decide) j).trans (BL731 j hj)
            have y750 : dt738 82 ((5 * (dt 79 10))).toNat = dt726 82 ((5 * (dt 79 10))).toNat := hF740 82 (by decide) _
            have y751 : dt738 82 ((5 * (dt 79 10)) + 1).toNat = dt726 82 ((5 * (dt 79 10)) + 1).toNat := hF740 82 (by decide) _
            have y752 : dt738 82 ((5 * (dt 79 10)) + 2).toNat = dt726 82 ((5 * (dt 79 10)) + 2).toNat := hF740 82 (by decide) _
            have y753 : dt738 82 ((5 * (dt 79 10)) + 3).toNat = dt726 82 ((5 * (dt 79 10)) + 3).toNat := hF740 82 (by decide) _
            have y754 : dt738 82 ((5 * (dt 79 10)) + 4).toNat = dt726 82 ((5 * (dt 79 10)) + 4).toNat := hF740 82 (by decide) _
            refine go_ret (k := 1) (r := some (.inl 1)) (w1 := (SH, dt738)) (fun _ => rfl) ?_
            exact ⟨dt738, rfl, hI739, hF741, (Or.inr ⟨rfl, ⟨by first | trivial | omega, by exact BL749, by unfold aOK; omega, by first | trivial | omega, by first | trivial | omega, by exact (InvC_get (by assumption) 79 15 rfl rfl).2, by first | trivial | omega, by first | trivial | omega, by first | trivial | omega, by first | trivial | omega, by first | trivial | omega⟩⟩)⟩
    · skip
      refine go_to (k := 2) (pc' := 31) (L' := [some (.inr (.inr (some 79))), none]) (st' := [.inl 3, .inr (.inr (some 79))]) (w' := (SH, dt)) (fun _ => rfl) ?_
      refine go_call (Q' := _) rfl rfl rfl rfl rfl (sp_X6_bad L xs sio (d + 8) dt hI  3 ⟨by omega, by omega⟩ ) ?_
      rintro _ _ ⟨dt756, rfl, hI757, hF758, h755⟩
      refine ⟨rfl, ?_⟩
      have hF759 : Fr [79, 82] dt dt756 := Fr_tr hF hF758 (by decide)
      have E84760 : dt756 84 = dt 84 := funext (hF758 84 (by decide))
      rcases h755 with ⟨rfl, h755⟩
      obtain ⟨h755_0, h755_1, h755_2, h755_3, h755_4, h755_5⟩ := h755
      have BL761 : ∀ j : Nat, (j : Int) < 5 * dt 79 10 → dt756 82 j = dt 82 j := fun j hj => (hF758 82 (by decide) j).trans ((fun _ _ => rfl) j hj)
      have y762 : dt756 82 ((5 * (dt 79 10))).toNat = dt 82 ((5 * (dt 79 10))).toNat := hF758 82 (by decide) _
      have y763 : dt756 82 ((5 * (dt 79 10)) + 1).toNat = dt 82 ((5 * (dt 79 10)) + 1).toNat := hF758 82 (by decide) _
      have y764 : dt756 82 ((5 * (dt 79 10)) + 2).toNat = dt 82 ((5 * (dt 79 10)) + 2).toNat := hF758 82 (by decide) _
      have y765 : dt756 82 ((5 * (dt 79 10)) + 3).toNat = dt 82 ((5 * (dt 79 10)) + 3).toNat := hF758 82 (by decide) _
      have y766 : dt756 82 ((5 * (dt 79 10)) + 4).toNat = dt 82 ((5 * (dt 79 10)) + 4).toNat := hF758 82 (by decide) _
      refine go_ret (k := 1) (r := some (.inl 0)) (w1 := (SH, dt756)) (fun _ => rfl) ?_
      exact ⟨dt756, rfl, hI757, hF759, (Or.inl ⟨rfl, ⟨by first | trivial | omega, by first | trivial | omega, by first | trivial | omega⟩⟩)⟩
  · skip
    refine go_to (k := 3) (pc' := 16) (L' := [some (.inr (.inr (some 79))), none]) (st' := [.inl 1, .inr (.inr (some 79))]) (w' := (SH, dt)) (fun _ => rfl) ?_
    refine go_call (Q' := _) rfl rfl rfl rfl rfl (sp_X6_bad L xs sio (d + 8) dt hI  1 ⟨by omega, by omega⟩ ) ?_
    rintro _ _ ⟨dt768, rfl, hI769, hF770, h767⟩
    refine ⟨rfl, ?_⟩
    have hF771 : Fr [79, 82] dt dt768 := Fr_tr hF hF770 (by decide)
    have E84772 : dt768 84 = dt 84 := funext (hF770 84 (by decide))
    rcases h767 with ⟨rfl, h767⟩
    obtain ⟨h767_0, h767_1, h767_2, h767_3, h767_4, h767_5⟩ := h767
    have BL773 : ∀ j : Nat, (j : Int) < 5 * dt 79 10 → dt768 82 j = dt 82 j := fun j hj => (hF770 82 (by decide) j).trans ((fun _ _ => rfl) j hj)
    have y774 : dt768 82 ((5 * (dt 79 10))).toNat = dt 82 ((5 * (dt 79 10))).toNat := hF770 82 (by decide) _
    have y775 : dt768 82 ((5 * (dt 79 10)) + 1).toNat = dt 82 ((5 * (dt 79 10)) + 1).toNat := hF770 82 (by decide) _
    have y776 : dt768 82 ((5 * (dt 79 10)) + 2).toNat = dt 82 ((5 * (dt 79 10)) + 2).toNat := hF770 82 (by decide) _
    have y777 : dt768 82 ((5 * (dt 79 10)) + 3).toNat = dt 82 ((5 * (dt 79 10)) + 3).toNat := hF770 82 (by decide) _
    have y778 : dt768 82 ((5 * (dt 79 10)) + 4).toNat = dt 82 ((5 * (dt 79 10)) + 4).toNat := hF770 82 (by decide) _
    refine go_ret (k := 1) (r := some (.inl 0)) (w1 := (SH, dt768)) (fun _ => rfl) ?_
    exact ⟨dt768, rfl, hI769, hF771, (Or.inl ⟨rfl, ⟨by first | trivial | omega, by first | trivial | omega, by first | trivial | omega⟩⟩)⟩
set_option maxHeartbeats 8000000 in
set_option maxRecDepth 20000 in
theorem sp_X6_aLine (L : Nat) (xs : Nat → Int32) (sio : Option Nat) (d : Nat) (dt : Nat → Nat → Int) (hI : InvC dt)   (h_p0 : (¬ dt 79 14 = 0 → dt 79 15 + 1 ≤ dt 79 13) ∧ dt 79 13 ≤ 500) (h_p1 : dt 79 11 ≤ dt 79 15) (h_p2 : dt 79 10 ≤ 16) : GO (am_XX L xs sio) (d + 37) 173 0 [some (.inr (.inr (some 79))), none] [] (SH, dt) (fun r w2 => ∃ dt2 : Nat → Nat → Int, w2 = (SH, dt2) ∧ InvC dt2 ∧ Fr [79, 83, 84] dt dt2 ∧ ((r = some (.inl 0) ∧ (dt2 79 2 = dt 79 2) ∧ (dt2 79 9 = dt 79 9) ∧ (dt2 79 12 = dt 79 12)) ∨ (r = some (.inl 1) ∧ (dt 79 10 ≤ 15) ∧ (∀ j : Nat, (j : Int) < 4 * dt 79 10 → dt2 83 j = dt 83 j) ∧ (LR (dt2 83 ((4 * (dt 79 10)) + 1).toNat) (dt2 83 ((4 * (dt 79 10)) + 2).toNat) (dt2 83 ((4 * (dt 79 10)) + 3).toNat) (dt2 79 11) (dt2 84)) ∧ (AGR (dt2 84) (dt 84) (dt 79 11)) ∧ (dt 79 11 ≤ dt2 79 11) ∧ (dt 79 15 + dt2 79 11 ≤ dt2 79 15 + dt 79 11) ∧ (dt 79 15 + 1 ≤ dt2 79 15) ∧ ((¬ dt2 79 14 = 0 → dt2 79 15 + 1 ≤ dt2 79 13) ∧ dt2 79 13 ≤ 500) ∧ (dt2 79 15 ≤ 500) ∧ (dt2 79 2 = dt 79 2) ∧ (dt2 79 9 = dt 79 9) ∧ (dt2 79 10 = dt 79 10) ∧ (dt2 79 12 = dt 79 12)))) := by
  have hF : Fr [79, 83, 84] dt dt := Fr_refl
  have r1 : 0 ≤ dt 79 15 ∧ dt 79 15 ≤ 500 := InvC_get hI 79 15 rfl rfl
  have r2 : 0 ≤ dt 79 11 ∧ dt 79 11 ≤ 510 := InvC_get hI 79 11 rfl rfl
  have r3 : 0 ≤ dt 79 10 ∧ dt 79 10 ≤ 24 := InvC_get hI 79 10 rfl rfl
  have r4 : (-2147483648) ≤ dt 79 14 ∧ dt 79 14 ≤ 2147483647 := InvC_get hI 79 14 rfl rfl
  refine go_if (k := 4) (p1 := 24) (p2 := 9) (L' := [some (.inr (.inr (some 79))), none]) (st' := []) (w' := (SH, dt)) (fun _ => rfl) (c_eq (a := dt 79 14) (b := 7) ⟨by omega, by omega⟩ ⟨by omega, by omega⟩) (fun c5 => ?_) (fun c5 => ?_)
  · skip
    refine go_if (k := 4) (p1 := 39) (p2 := 33) (L' := [some (.inr (.inr (some 79))), none]) (st' := []) (w' := (SH, dt)) (fun _ => rfl) (c_ne (a := dt 79 10) (b := 16) ⟨by omega, by omega⟩ ⟨by omega, by omega⟩) (fun c6 => ?_) (fun c6 => ?_)
    · skip
      refine go_if (k := 4) (p1 := 52) (p2 := 48) (L' := [some (.inr (.inr (some 79))), none]) (st' := []) (w' := (SH, dt)) (fun _ => rfl) (c_ne (a := dt 79 14) (b := 7) ⟨by omega, by omega⟩ ⟨by omega, by omega⟩) (fun c7 => ?_) (fun c7 => ?_)
      · skip
        refine go_to (k := 4) (pc' := 56) (L' := [some (.inr (.inr (some 79))), some (.inl 0)]) (st' := [.inl 0, .inr (.inr (some 79))]) (w' := (SH, dt)) (fun _ => rfl) ?_
        have hI8 : InvC (u2 dt 79 20 0) := InvC_u2 hI (lo := 0) (hi := 8) rfl rfl rfl (by omega) (by omega)
        have hF9 : Fr [79, 83, 84] dt (u2 dt 79 20 0) := Fr_u2 hF (by decide)
        have w10 : (u2 dt 79 20 0) 79 2 = dt 79 2 := rfl
        have w11 : (u2 dt 79 20 0) 79 9 = dt 79 9 := rfl
        have w12 : (u2 dt 79 20 0) 79 10 = dt 79 10 := rfl
        have w13 : (u2 dt 79 20 0) 79 11 = dt 79 11 := rfl
        have w14 : (u2 dt 79 20 0) 79 12 = dt 79 12 := rfl
        have w15 : (u2 dt 79 20 0) 79 13 = dt 79 13 := rfl
        have w16 : (u2 dt 79 20 0) 79 14 = dt 79 14 := rfl
        have w17 : (u2 dt 79 20 0) 79 15 = dt 79 15 := rfl
        have w18 : (u2 dt 79 20 0) 79 16 = dt 79 16 := rfl
        have w19 : (u2 dt 79 20 0) 79 20 = 0 := rfl
        have E8420 : (u2 dt 79 20 0) 84 = dt 84 := funext fun _ => u2_ne (by omega)
        have BL21 : ∀ j : Nat, (j : Int) < 4 * dt 79 10 → (u2 dt 79 20 0) 83 j = dt 83 j := fun j hj => (u2_ne (by omega)).trans ((fun _ _ => rfl) j hj)
        have y22 : (u2 dt 79 20 0) 83 ((4 * (dt 79 10))).toNat = dt 83 ((4 * (dt 79 10))).toNat := u2_ne (by omega)
        have y23 : (u2 dt 79 20 0) 83 ((4 * (dt 79 10)) + 1).toNat = dt 83 ((4 * (dt 79 10)) + 1).toNat := u2_ne (by omega)
        have y24 : (u2 dt 79 20 0) 83 ((4 * (dt 79 10)) + 2).toNat = dt 83 ((4 * (dt 79 10)) + 2).toNat := u2_ne (by omega)
        have y25 : (u2 dt 79 20 0) 83 ((4 * (dt 79 10)) + 3).toNat = dt 83 ((4 * (dt 79 10)) + 3).toNat := u2_ne (by omega)
        refine go_smp (L' := [some (.inr (.inr (some 79))), some (.inl 0)]) (st' := []) (w' := (SH, (u2 dt 79 20 0))) rfl rfl (s_pf rfl rfl rfl rfl ⟨by omega, by omega⟩) ?_
        refine go_to (k := 1) (pc' := 60) (L' := [some (.inr (.inr (some 79))), some (.inl 0)]) (st' := [.inr (.inr (some 79))]) (w' := (SH, (u2 dt 79 20 0))) (fun _ => rfl) ?_
        refine go_call (Q' := _) rfl rfl rfl rfl rfl (sp_X6_next0 L xs sio (d + 30) (u2 dt 79 20 0) hI8   (by first | trivial | omega)) ?_
        rintro _ _ ⟨dt27, rfl, hI28, hF29, h26⟩
        refine ⟨rfl, ?_⟩
        have hF30 : Fr [79, 83, 84] dt dt27 := Fr_tr hF9 hF29 (by decide)
        have E8431 : dt27 84 = dt 84 := (funext (hF29 84 (by decide))).trans E8420
        rcases h26 with ⟨rfl, h26⟩
        obtain ⟨h26_0, h26_1, h26_2, h26_3, h26_4, h26_5, h26_6, h26_7, h26_8⟩ := h26
        have BL32 : ∀ j : Nat, (j : Int) < 4 * dt 79 10 → dt27 83 j = dt 83 j := fun j hj => (hF29 83 (by decide) j).trans (BL21 j hj)
        have y33 : dt27 83 ((4 * (dt 79 10))).toNat = (u2 dt 79 20 0) 83 ((4 * (dt 79 10))).toNat := hF29 83 (by decide) _
        have y34 : dt27 83 ((4 * (dt 79 10)) + 1).toNat = (u2 dt 79 20 0) 83 ((4 * (dt 79 10)) + 1).toNat := hF29 83 (by decide) _
        have y35 : dt27 83 ((4 * (dt 79 10)) + 2).toNat = (u2 dt 79 20 0) 83 ((4 * (dt 79 10)) + 2).toNat := hF29 83 (by decide) _
        have y36 : dt27 83 ((4 * (dt 79 10)) + 3).toNat = (u2 dt 79 20 0) 83 ((4 * (dt 79 10)) + 3).toNat := hF29 83 (by decide) _
        have r37 : 0 ≤ dt27 79 10 ∧ dt27 79 10 ≤ 24 := InvC_get hI28 79 10 rfl rfl
        refine go_to (k := 9) (pc' := 86) (L' := [some (.inr (.inr (some 79))), some (.inl 0)]) (st' := [.inl 8, .inl (4 * (dt27 79 10)), .inr (.inr (some 83))]) (w' := (SH, dt27)) (fun _ => rfl) ?_
        have hI38 : InvC (u2 dt27 83 ((4 * (dt27 79 10)).toNat) 8) := InvC_u2 hI28 (lo := -2147483648) (hi := 2147483647) rfl rfl rfl (by omega) (by omega)
        have hF39 : Fr [79, 83, 84] dt (u2 dt27 83 ((4 * (dt27 79 10)).toNat) 8) := Fr_u2 hF30 (by decide)
        have w40 : (u2 dt27 83 ((4 * (dt27 79 10)).toNat) 8) 79 2 = dt27 79 2 := rfl
        have w41 : (u2 dt27 83 ((4 * (dt27 79 10)).toNat) 8) 79 9 = dt27 79 9 := rfl
        have w42 : (u2 dt27 83 ((4 * (dt27 79 10)).toNat) 8) 79 10 = dt27 79 10 := rfl
        have w43 : (u2 dt27 83 ((4 * (dt27 79 10)).toNat) 8) 79 11 = dt27 79 11 := rfl
        have w44 : (u2 dt27 83 ((4 * (dt27 79 10)).toNat) 8) 79 12 = dt27 79 12 := rfl
        have w45 : (u2 dt27 83 ((4 * (dt27 79 10)).toNat) 8) 79 13 = dt27 79 13 := rfl
        have w46 : (u2 dt27 83 ((4 * (dt27 79 10)).toNat) 8) 79 14 = dt27 79 14 := rfl
        have w47 : (u2 dt27 83 ((4 * (dt27 79 10)).toNat) 8) 79 15 = dt27 79 15 := rfl
        have w48 : (u2 dt27 83 ((4 * (dt27 79 10)).toNat) 8) 79 16 = dt27 79 16 := rfl
        have w49 : (u2 dt27 83 ((4 * (dt27 79 10)).toNat) 8) 79 20 = dt27 79 20 := rfl
        have E8450 : (u2 dt27 83 ((4 * (dt27 79 10)).toNat) 8) 84 = dt 84 := (funext fun _ => u2_ne (by omega)).trans E8431
        have ex52 : ((4 * (dt 79 10))).toNat = (4 * (dt27 79 10)).toNat := by omega
        have BL51 : ∀ j : Nat, (j : Int) < 4 * dt 79 10 → (u2 dt27 83 ((4 * (dt27 79 10)).toNat) 8) 83 j = dt 83 j := fun j hj => (u2_ne (by omega)).trans (BL32 j hj)
        have y53 : (u2 dt27 83 ((4 * (dt27 79 10)).toNat) 8) 83 ((4 * (dt 79 10))).toNat = 8 := by rw [ex52]; exact u2_eq
        have y54 : (u2 dt27 83 ((4 * (dt27 79 10)).toNat) 8) 83 ((4 * (dt 79 10)) + 1).toNat = dt27 83 ((4 * (dt 79 10)) + 1).toNat := u2_ne (by omega)
        have y55 : (u2 dt27 83 ((4 * (dt27 79 10)).toNat) 8) 83 ((4 * (dt 79 10)) + 2).toNat = dt27 83 ((4 * (dt 79 10)) + 2).toNat := u2_ne (by omega)
        have y56 : (u2 dt27 83 ((4 * (dt27 79 10)).toNat) 8) 83 ((4 * (dt 79 10)) + 3).toNat = dt27 83 ((4 * (dt 79 10)) + 3).toNat := u2_ne (by omega)
        refine go_smp (L' := [some (.inr (.inr (some 79))), some (.inl 0)]) (st' := []) (w' := (SH, (u2 dt27 83 ((4 * (dt27 79 10)).toNat) 8))) rfl rfl (s_iast (n := 64) rfl ⟨by omega, by omega⟩ ⟨by omega, by omega⟩) ?_
        have r57 : 0 ≤ dt27 79 11 ∧ dt27 79 11 ≤ 510 := InvC_get hI28 79 11 rfl rfl
        refine go_to (k := 12) (pc' := 119) (L' := [some (.inr (.inr (some 79))), some (.inl 0)]) (st' := [.inl (dt27 79 11), .inl ((4 * (dt27 79 10)) + 1), .inr (.inr (some 83))]) (w' := (SH, (u2 dt27 83 ((4 * (dt27 79 10)).toNat) 8))) (fun _ => rfl) ?_
        have hI58 : InvC (u2 (u2 dt27 83 ((4 * (dt27 79 10)).toNat) 8) 83 (((4 * (dt27 79 10)) + 1).toNat) (dt27 79 11)) := InvC_u2 hI38 (lo := -2147483648) (hi := 2147483647) rfl rfl rfl (by omega) (by omega)
        have hF59 : Fr [79, 83, 84] dt (u2 (u2 dt27 83 ((4 * (dt27 79 10)).toNat) 8) 83 (((4 * (dt27 79 10)) + 1).toNat) (dt27 79 11)) := Fr_u2 hF39 (by decide)
        have w60 : (u2 (u2 dt27 83 ((4 * (dt27 79 10)).toNat) 8) 83 (((4 * (dt27 79 10)) + 1).toNat) (dt27 79 11)) 79 2 = (u2 dt27 83 ((4 * (dt27 79 10)).toNat) 8) 79 2 := rfl
        have w61 : (u2 (u2 dt27 83 ((4 * (dt27 79 10)).toNat) 8) 83 (((4 * (dt27 79 10)) + 1).toNat) (dt27 79 11)) 79 9 = (u2 dt27 83 ((4 * (dt27 79 10)).toNat) 8) 79 9 := rfl
        have w62 : (u2 (u2 dt27 83 ((4 * (dt27 79 10)).toNat) 8) 83 (((4 * (dt27 79 10)) + 1).toNat) (dt27 79 11)) 79 10 = (u2 dt27 83 ((4 * (dt27 79 10)).toNat) 8) 79 10 := rfl
        have w63 : (u2 (u2 dt27 83 ((4 * (dt27 79 10)).toNat) 8) 83 (((4 * (dt27 79 10)) + 1).toNat) (dt27 79 11)) 79 11 = (u2 dt27 83 ((4 * (dt27 79 10)).toNat) 8) 79 11 := rfl
        have w64 : (u2 (u2 dt27 83 ((4 * (dt27 79 10)).toNat) 8) 83 (((4 * (dt27 79 10)) + 1).toNat) (dt27 79 11)) 79 12 = (u2 dt27 83 ((4 * (dt27 79 10)).toNat) 8) 79 12 := rfl
        have w65 : (u2 (u2 dt27 83 ((4 * (dt27 79 10)).toNat) 8) 83 (((4 * (dt27 79 10)) + 1).toNat) (dt27 79 11)) 79 13 = (u2 dt27 83 ((4 * (dt27 79 10)).toNat) 8) 79 13 := rfl
        have w66 : (u2 (u2 dt27 83 ((4 * (dt27 79 10)).toNat) 8) 83 (((4 * (dt27 79 10)) + 1).toNat) (dt27 79 11)) 79 14 = (u2 dt27 83 ((4 * (dt27 79 10)).toNat) 8) 79 14 := rfl
        have w67 : (u2 (u2 dt27 83 ((4 * (dt27 79 10)).toNat) 8) 83 (((4 * (dt27 79 10)) + 1).toNat) (dt27 79 11)) 79 15 = (u2 dt27 83 ((4 * (dt27 79 10)).toNat) 8) 79 15 := rfl
        have w68 : (u2 (u2 dt27 83 ((4 * (dt27 79 10)).toNat) 8) 83 (((4 * (dt27 79 10)) + 1).toNat) (dt27 79 11)) 79 16 = (u2 dt27 83 ((4 * (dt27 79 10)).toNat) 8) 79 16 := rfl
        have w69 : (u2 (u2 dt27 83 ((4 * (dt27 79 10)).toNat) 8) 83 (((4 * (dt27 79 10)) + 1).toNat) (dt27 79 11)) 79 20 = (u2 dt27 83 ((4 * (dt27 79 10)).toNat) 8) 79 20 := rfl
        have E8470 : (u2 (u2 dt27 83 ((4 * (dt27 79 10)).toNat) 8) 83 (((4 * (dt27 79 10)) + 1).toNat) (dt27 79 11)) 84 = dt 84 := (funext fun _ => u2_ne (by omega)).trans E8450
        have ex72 : ((4 * (dt 79 10)) + 1).toNat = ((4 * (dt27 79 10)) + 1).toNat := by omega
        have BL71 : ∀ j : Nat, (j : Int) < 4 * dt 79 10 → (u2 (u2 dt27 83 ((4 * (dt27 79 10)).toNat) 8) 83 (((4 * (dt27 79 10)) + 1).toNat) (dt27 79 11)) 83 j = dt 83 j := fun j hj => (u2_ne (by omega)).trans (BL51 j hj)
        have y73 : (u2 (u2 dt27 83 ((4 * (dt27 79 10)).toNat) 8) 83 (((4 * (dt27 79 10)) + 1).toNat) (dt27 79 11)) 83 ((4 * (dt 79 10))).toNat = (u2 dt27 83 ((4 * (dt27 79 10)).toNat) 8) 83 ((4 * (dt 79 10))).toNat := u2_ne (by omega)
        have y74 : (u2 (u2 dt27 83 ((4 * (dt27 79 10)).toNat) 8) 83 (((4 * (dt27 79 10)) + 1).toNat) (dt27 79 11)) 83 ((4 * (dt 79 10)) + 1).toNat = dt27 79 11 := by rw [ex72]; exact u2_eq
        have y75 : (u2 (u2 dt27 83 ((4 * (dt27 79 10)).toNat) 8) 83 (((4 * (dt27 79 10)) + 1).toNat) (dt27 79 11)) 83 ((4 * (dt 79 10)) + 2).toNat = (u2 dt27 83 ((4 * (dt27 79 10)).toNat) 8) 83 ((4 * (dt 79 10)) + 2).toNat := u2_ne (by omega)
        have y76 : (u2 (u2 dt27 83 ((4 * (dt27 79 10)).toNat) 8) 83 (((4 * (dt27 79 10)) + 1).toNat) (dt27 79 11)) 83 ((4 * (dt 79 10)) + 3).toNat = (u2 dt27 83 ((4 * (dt27 79 10)).toNat) 8) 83 ((4 * (dt 79 10)) + 3).toNat := u2_ne (by omega)
        refine go_smp (L' := [some (.inr (.inr (some 79))), some (.inl 0)]) (st' := []) (w' := (SH, (u2 (u2 dt27 83 ((4 * (dt27 79 10)).toNat) 8) 83 (((4 * (dt27 79 10)) + 1).toNat) (dt27 79 11)))) rfl rfl (s_iast (n := 64) rfl ⟨by omega, by omega⟩ ⟨by omega, by omega⟩) ?_
        refine go_to (k := 1) (pc' := 121) (L' := [some (.inr (.inr (some 79))), some (.inl 0)]) (st' := [.inr (.inr (some 79))]) (w' := (SH, (u2 (u2 dt27 83 ((4 * (dt27 79 10)).toNat) 8) 83 (((4 * (dt27 79 10)) + 1).toNat) (dt27 79 11)))) (fun _ => rfl) ?_
        refine go_call (Q' := _) rfl rfl rfl rfl rfl (sp_X6_sumUp L xs sio (d + 27) (u2 (u2 dt27 83 ((4 * (dt27 79 10)).toNat) 8) 83 (((4 * (dt27 79 10)) + 1).toNat) (dt27 79 11)) hI58   (by first | trivial | omega) (by first | trivial | omega)) ?_
        rintro _ _ ⟨dt78, rfl, hI79, hF80, h77⟩
        refine ⟨rfl, ?_⟩
        have hF81 : Fr [79, 83, 84] dt dt78 := Fr_tr hF59 hF80 (by decide)
        rcases h77 with ⟨rfl, h77⟩ | ⟨rfl, h77⟩
        · skip
          obtain ⟨h77_0, h77_1, h77_2, h77_3⟩ := h77
          have BL82 : ∀ j : Nat, (j : Int) < 4 * dt 79 10 → dt78 83 j = dt 83 j := fun j hj => (hF80 83 (by decide) j).trans (BL71 j hj)
          have y83 : dt78 83 ((4 * (dt 79 10))).toNat = (u2 (u2 dt27 83 ((4 * (dt27 79 10)).toNat) 8) 83 (((4 * (dt27 79 10)) + 1).toNat) (dt27 79 11)) 83 ((4 * (dt 79 10))).toNat := hF80 83 (by decide) _
          have y84 : dt78 83 ((4 * (dt 79 10)) + 1).toNat = (u2 (u2 dt27 83 ((4 * (dt27 79 10)).toNat) 8) 83 (((4 * (dt27 79 10)) + 1).toNat) (dt27 79 11)) 83 ((4 * (dt 79 10)) + 1).toNat := hF80 83 (by decide) _
          have y85 : dt78 83 ((4 * (dt 79 10)) + 2).toNat = (u2 (u2 dt27 83 ((4 * (dt27 79 10)).toNat) 8) 83 (((4 * (dt27 79 10)) + 1).toNat) (dt27 79 11)) 83 ((4 * (dt 79 10)) + 2).toNat := hF80 83 (by decide) _
          have y86 : dt78 83 ((4 * (dt 79 10)) + 3).toNat = (u2 (u2 dt27 83 ((4 * (dt27 79 10)).toNat) 8) 83 (((4 * (dt27 79 10)) + 1).toNat) (dt27 79 11)) 83 ((4 * (dt 79 10)) + 3).toNat := hF80 83 (by decide) _
          refine go_ret (k := 3) (r := some (.inl 0)) (w1 := (SH, dt78)) (fun _ => rfl) ?_
          exact ⟨dt78, rfl, hI79, hF81, (Or.inl ⟨rfl, ⟨by first | trivial | omega, by first | trivial | omega, by first | trivial | omega⟩⟩)⟩
        · skip
          obtain ⟨h77_0, h77_1, h77_2, h77_3, h77_4, h77_5, h77_6, h77_7, h77_8, h77_9, h77_10⟩ := h77
          have BL87 : ∀ j : Nat, (j : Int) < 4 * dt 79 10 → dt78 83 j = dt 83 j := fun j hj => (hF80 83 (by decide) j).trans (BL71 j hj)
          have y88 : dt78 83 ((4 * (dt 79 10))).toNat = (u2 (u2 dt27 83 ((4 * (dt27 79 10)).toNat) 8) 83 (((4 * (dt27 79 10)) + 1).toNat) (dt27 79 11)) 83 ((4 * (dt 79 10))).toNat := hF80 83 (by decide) _
          have y89 : dt78 83 ((4 * (dt 79 10)) + 1).toNat = (u2 (u2 dt27 83 ((4 * (dt27 79 10)).toNat) 8) 83 (((4 * (dt27 79 10)) + 1).toNat) (dt27 79 11)) 83 ((4 * (dt 79 10)) + 1).toNat := hF80 83 (by decide) _
          have y90 : dt78 83 ((4 * (dt 79 10)) + 2).toNat = (u2 (u2 dt27 83 ((4 * (dt27 79 10)).toNat) 8) 83 (((4 * (dt27 79 10)) + 1).toNat) (dt27 79 11)) 83 ((4 * (dt 79 10)) + 2).toNat := hF80 83 (by decide) _
          have y91 : dt78 83 ((4 * (dt 79 10)) + 3).toNat = (u2 (u2 dt27 83 ((4 * (dt27 79 10)).toNat) 8) 83 (((4 * (dt27 79 10)) + 1).toNat) (dt27 79 11)) 83 ((4 * (dt 79 10)) + 3).toNat := hF80 83 (by decide) _
          have r92 : 0 ≤ dt78 79 10 ∧ dt78 79 10 ≤ 24 := InvC_get hI79 79 10 rfl rfl
          have r93 : 0 ≤ dt78 79 11 ∧ dt78 79 11 ≤ 510 := InvC_get hI79 79 11 rfl rfl
          refine go_to (k := 11) (pc' := 145) (L' := [some (.inr (.inr (some 79))), some (.inl 0)]) (st' := [.inl (dt78 79 11), .inl ((4 * (dt78 79 10)) + 2), .inr (.inr (some 83))]) (w' := (SH, dt78)) (fun _ => rfl) ?_
          have hI94 : InvC (u2 dt78 83 (((4 * (dt78 79 10)) + 2).toNat) (dt78 79 11)) := InvC_u2 hI79 (lo := -2147483648) (hi := 2147483647) rfl rfl rfl (by omega) (by omega)
          have hF95 : Fr [79, 83, 84] dt (u2 dt78 83 (((4 * (dt78 79 10)) + 2).toNat) (dt78 79 11)) := Fr_u2 hF81 (by decide)
          have w96 : (u2 dt78 83 (((4 * (dt78 79 10)) + 2).toNat) (dt78 79 11)) 79 2 = dt78 79 2 := rfl
          have w97 : (u2 dt78 83 (((4 * (dt78 79 10)) + 2).toNat) (dt78 79 11)) 79 9 = dt78 79 9 := rfl
          have w98 : (u2 dt78 83 (((4 * (dt78 79 10)) + 2).toNat) (dt78 79 11)) 79 10 = dt78 79 10 := rfl
          have w99 : (u2 dt78 83 (((4 * (dt78 79 10)) + 2).toNat) (dt78 79 11)) 79 11 = dt78 79 11 := rfl
          have w100 : (u2 dt78 83 (((4 * (dt78 79 10)) + 2).toNat) (dt78 79 11)) 79 12 = dt78 79 12 := rfl
          have w101 : (u2 dt78 83 (((4 * (dt78 79 10)) + 2).toNat) (dt78 79 11)) 79 13 = dt78 79 13 := rfl
          have w102 : (u2 dt78 83 (((4 * (dt78 79 10)) + 2).toNat) (dt78 79 11)) 79 14 = dt78 79 14 := rfl
          have w103 : (u2 dt78 83 (((4 * (dt78 79 10)) + 2).toNat) (dt78 79 11)) 79 15 = dt78 79 15 := rfl
          have w104 : (u2 dt78 83 (((4 * (dt78 79 10)) + 2).toNat) (dt78 79 11)) 79 16 = dt78 79 16 := rfl
          have w105 : (u2 dt78 83 (((4 * (dt78 79 10)) + 2).toNat) (dt78 79 11)) 79 20 = dt78 79 20 := rfl
          have E84106 : (u2 dt78 83 (((4 * (dt78 79 10)) + 2).toNat) (dt78 79 11)) 84 = dt78 84 := funext fun _ => u2_ne (by omega)
          have ex108 : ((4 * (dt 79 10)) + 2).toNat = ((4 * (dt78 79 10)) + 2).toNat := by omega
          have BL107 : ∀ j : Nat, (j : Int) < 4 * dt 79 10 → (u2 dt78 83 (((4 * (dt78 79 10)) + 2).toNat) (dt78 79 11)) 83 j = dt 83 j := fun j hj => (u2_ne (by omega)).trans (BL87 j hj)
          have y109 : (u2 dt78 83 (((4 * (dt78 79 10)) + 2).toNat) (dt78 79 11)) 83 ((4 * (dt 79 10))).toNat = dt78 83 ((4 * (dt 79 10))).toNat := u2_ne (by omega)
          have y110 : (u2 dt78 83 (((4 * (dt78 79 10)) + 2).toNat) (dt78 79 11)) 83 ((4 * (dt 79 10)) + 1).toNat = dt78 83 ((4 * (dt 79 10)) + 1).toNat := u2_ne (by omega)
          have y111 : (u2 dt78 83 (((4 * (dt78 79 10)) + 2).toNat) (dt78 79 11)) 83 ((4 * (dt 79 10)) + 2).toNat = dt78 79 11 := by rw [ex108]; exact u2_eq
          have y112 : (u2 dt78 83 (((4 * (dt78 79 10)) + 2).toNat) (dt78 79 11)) 83 ((4 * (dt 79 10)) + 3).toNat = dt78 83 ((4 * (dt 79 10)) + 3).toNat := u2_ne (by omega)
          refine go_smp (L' := [some (.inr (.inr (some 79))), some (.inl 0)]) (st' := []) (w' := (SH, (u2 dt78 83 (((4 * (dt78 79 10)) + 2).toNat) (dt78 79 11)))) rfl rfl (s_iast (n := 64) rfl ⟨by omega, by omega⟩ ⟨by omega, by omega⟩) ?_
          have r113 : (-2147483648) ≤ dt78 79 14 ∧ dt78 79 14 ≤ 2147483647 := InvC_get hI79 79 14 rfl rfl
          refine go_if (k := 4) (p1 := 167) (p2 := 154) (L' := [some (.inr (.inr (some 79))), some (.inl 0)]) (st' := []) (w' := (SH, (u2 dt78 83 (((4 * (dt78 79 10)) + 2).toNat) (dt78 79 11)))) (fun _ => rfl) (c_ne (a := dt78 79 14) (b := 3) ⟨by omega, by omega⟩ ⟨by omega, by omega⟩) (fun c114 => ?_) (fun c114 => ?_)
          · skip
            refine go_to (k := 10) (pc' := 183) (L' := [some (.inr (.inr (some 79))), some (.inl 0)]) (st' := [.inl (dt78 79 11), .inl ((4 * (dt78 79 10)) + 3), .inr (.inr (some 83))]) (w' := (SH, (u2 dt78 83 (((4 * (dt78 79 10)) + 2).toNat) (dt78 79 11)))) (fun _ => rfl) ?_
            have hI115 : InvC (u2 (u2 dt78 83 (((4 * (dt78 79 10)) + 2).toNat) (dt78 79 11)) 83 (((4 * (dt78 79 10)) + 3).toNat) (dt78 79 11)) := InvC_u2 hI94 (lo := -2147483648) (hi := 2147483647) rfl rfl rfl (by omega) (by omega)
            have hF116 : Fr [79, 83, 84] dt (u2 (u2 dt78 83 (((4 * (dt78 79 10)) + 2).toNat) (dt78 79 11)) 83 (((4 * (dt78 79 10)) + 3).toNat) (dt78 79 11)) := Fr_u2 hF95 (by decide)
            have w117 : (u2 (u2 dt78 83 (((4 * (dt78 79 10)) + 2).toNat) (dt78 79 11)) 83 (((4 * (dt78 79 10)) + 3).toNat) (dt78 79 11)) 79 2 = (u2 dt78 83 (((4 * (dt78 79 10)) + 2).toNat) (dt78 79 11)) 79 2 := rfl
            have w118 : (u2 (u2 dt78 83 (((4 * (dt78 79 10)) + 2).toNat) (dt78 79 11)) 83 (((4 * (dt78 79 10)) + 3).toNat) (dt78 79 11)) 79 9 = (u2 dt78 83 (((4 * (dt78 79 10)) + 2).toNat) (dt78 79 11)) 79 9 := rfl
            have w119 : (u2 (u2 dt78 83 (((4 * (dt78 79 10)) + 2).toNat) (dt78 79 11)) 83 (((4 * (dt78 79 10)) + 3).toNat) (dt78 79 11)) 79 10 = (u2 dt78 83 (((4 * (dt78 79 10)) + 2).toNat) (dt78 79 11)) 79 10 := rfl
            have w120 : (u2 (u2 dt78 83 (((4 * (dt78 79 10)) + 2).toNat) (dt78 79 11)) 83 (((4 * (dt78 79 10)) + 3).toNat) (dt78 79 11)) 79 11 = (u2 dt78 83 (((4 * (dt78 79 10)) + 2).toNat) (dt78 79 11)) 79 11 := rfl
            have w121 : (u2 (u2 dt78 83 (((4 * (dt78 79 10)) + 2).toNat) (dt78 79 11)) 83 (((4 * (dt78 79 10)) + 3).toNat) (dt78 79 11)) 79 12 = (u2 dt78 83 (((4 * (dt78 79 10)) + 2).toNat) (dt78 79 11)) 79 12 := rfl
            have w122 : (u2 (u2 dt78 83 (((4 * (dt78 79 10)) + 2).toNat) (dt78 79 11)) 83 (((4 * (dt78 79 10)) + 3).toNat) (dt78 79 11)) 79 13 = (u2 dt78 83 (((4 * (dt78 79 10)) + 2).toNat) (dt78 79 11)) 79 13 := rfl
            have w123 : (u2 (u2 dt78 83 (((4 * (dt78 79 10)) + 2).toNat) (dt78 79 11)) 83 (((4 * (dt78 79 10)) + 3).toNat) (dt78 79 11)) 79 14 = (u2 dt78 83 (((4 * (dt78 79 10)) + 2).toNat) (dt78 79 11)) 79 14 := rfl
            have w124 : (u2 (u2 dt78 83 (((4 * (dt78 79 10)) + 2).toNat) (dt78 79 11)) 83 (((4 * (dt78 79 10)) + 3).toNat) (dt78 79 11)) 79 15 = (u2 dt78 83 (((4 * (dt78 79 10)) + 2).toNat) (dt78 79 11)) 79 15 := rfl
            have w125 : (u2 (u2 dt78 83 (((4 * (dt78 79 10)) + 2).toNat) (dt78 79 11)) 83 (((4 * (dt78 79 10)) + 3).toNat) (dt78 79 11)) 79 16 = (u2 dt78 83 (((4 * (dt78 79 10)) + 2).toNat) (dt78 79 11)) 79 16 := rfl
            have w126 : (u2 (u2 dt78 83 (((4 * (dt78 79 10)) + 2).toNat) (dt78 79 11)) 83 (((4 * (dt78 79 10)) + 3).toNat) (dt78 79 11)) 79 20 = (u2 dt78 83 (((4 * (dt78 79 10)) + 2).toNat) (dt78 79 11)) 79 20 := rfl
            have E84127 : (u2 (u2 dt78 83 (((4 * (dt78 79 10)) + 2).toNat) (dt78 79 11)) 83 (((4 * (dt78 79 10)) + 3).toNat) (dt78 79 11)) 84 = dt78 84 := (funext fun _ => u2_ne (by omega)).trans E84106
            have ex129 : ((4 * (dt 79 10)) + 3).toNat = ((4 * (dt78 79 10)) + 3).toNat := by omega
            have BL128 : ∀ j : Nat, (j : Int) < 4 * dt 79 10 → (u2 (u2 dt78 83 (((4 * (dt78 79 10)) + 2).toNat) (dt78 79 11)) 83 (((4 * (dt78 79 10)) + 3).toNat) (dt78 79 11)) 83 j = dt 83 j := fun j hj => (u2_ne (by omega)).trans (BL107 j hj)
            have y130 : (u2 (u2 dt78 83 (((4 * (dt78 79 10)) + 2).toNat) (dt78 79 11)) 83 (((4 * (dt78 79 10)) + 3).toNat) (dt78 79 11)) 83 ((4 * (dt 79 10))).toNat = (u2 dt78 83 (((4 * (dt78 79 10)) + 2).toNat) (dt78 79 11)) 83 ((4 * (dt 79 10))).toNat := u2_ne (by omega)
            have y131 : (u2 (u2 dt78 83 (((4 * (dt78 79 10)) + 2).toNat) (dt78 79 11)) 83 (((4 * (dt78 79 10)) + 3).toNat) (dt78 79 11)) 83 ((4 * (dt 79 10)) + 1).toNat = (u2 dt78 83 (((4 * (dt78 79 10)) + 2).toNat) (dt78 79 11)) 83 ((4 * (dt 79 10)) + 1).toNat := u2_ne (by omega)
            have y132 : (u2 (u2 dt78 83 (((4 * (dt78 79 10)) + 2).toNat) (dt78 79 11)) 83 (((4 * (dt78 79 10)) + 3).toNat) (dt78 79 11)) 83 ((4 * (dt 79 10)) + 2).toNat = (u2 dt78 83 (((4 * (dt78 79 10)) + 2).toNat) (dt78 79 11)) 83 ((4 * (dt 79 10)) + 2).toNat := u2_ne (by omega)
            have y133 : (u2 (u2 dt78 83 (((4 * (dt78 79 10)) + 2).toNat) (dt78 79 11)) 83 (((4 * (dt78 79 10)) + 3).toNat) (dt78 79 11)) 83 ((4 * (dt 79 10)) + 3).toNat = dt78 79 11 := by rw [ex129]; exact u2_eq
            refine go_smp (L' := [some (.inr (.inr (some 79))), some (.inl 0)]) (st' := []) (w' := (SH, (u2 (u2 dt78 83 (((4 * (dt78 79 10)) + 2).toNat) (dt78 79 11)) 83 (((4 * (dt78 79 10)) + 3).toNat) (dt78 79 11)))) rfl rfl (s_iast (n := 64) rfl ⟨by omega, by omega⟩ ⟨by omega, by omega⟩) ?_
            refine go_to (k := 2) (pc' := 188) (L' := [some (.inr (.inr (some 79))), some (.inl 0)]) (st' := [.inl 159, .inr (.inr (some 79))]) (w' := (SH, (u2 (u2 dt78 83 (((4 * (dt78 79 10)) + 2).toNat) (dt78 79 11)) 83 (((4 * (dt78 79 10)) + 3).toNat) (dt78 79 11)))) (fun _ => rfl) ?_
            refine go_call (Q' := _) rfl rfl rfl rfl rfl (sp_X6_need0 L xs sio (d + 29) (u2 (u2 dt78 83 (((4 * (dt78 79 10)) + 2).toNat) (dt78 79 11)) 83 (((4 * (dt78 79 10)) + 3).toNat) (dt78 79 11)) hI115  159 ⟨by omega, by omega⟩ (by first | trivial | omega)) ?_
            rintro _ _ ⟨dt135, rfl, hI136, hF137, h134⟩
            refine ⟨rfl, ?_⟩
            have hF138 : Fr [79, 83, 84] dt dt135 := Fr_tr hF116 hF137 (by decide)
            have E84139 : dt135 84 = dt78 84 := (funext (hF137 84 (by decide))).trans E84127
            rcases h134 with ⟨rfl, h134⟩ | ⟨rfl, h134⟩
            · skip
              obtain ⟨h134_0, h134_1, h134_2, h134_3⟩ := h134
              have BL140 : ∀ j : Nat, (j : Int) < 4 * dt 79 10 → dt135 83 j = dt 83 j := fun j hj => (hF137 83 (by decide) j).trans (BL128 j hj)
              have y141 : dt135 83 ((4 * (dt 79 10))).toNat = (u2 (u2 dt78 83 (((4 * (dt78 79 10)) + 2).toNat) (dt78 79 11)) 83 (((4 * (dt78 79 10)) + 3).toNat) (dt78 79 11)) 83 ((4 * (dt 79 10))).toNat := hF137 83 (by decide) _
              have y142 : dt135 83 ((4 * (dt 79 10)) + 1).toNat = (u2 (u2 dt78 83 (((4 * (dt78 79 10)) + 2).toNat) (dt78 79 11)) 83 (((4 * (dt78 79 10)) + 3).toNat) (dt78 79 11)) 83 ((4 * (dt 79 10)) + 1).toNat := hF137 83 (by decide) _
              have y143 : dt135 83 ((4 * (dt 79 10)) + 2).toNat = (u2 (u2 dt78 83 (((4 * (dt78 79 10)) + 2).toNat) (dt78 79 11)) 83 (((4 * (dt78 79 10)) + 3).toNat) (dt78 79 11)) 83 ((4 * (dt 79 10)) + 2).toNat := hF137 83 (by decide) _
              have y144 : dt135 83 ((4 * (dt 79 10)) + 3).toNat = (u2 (u2 dt78 83 (((4 * (dt78 79 10)) + 2).toNat) (dt78 79 11)) 83 (((4 * (dt78 79 10)) + 3).toNat) (dt78 79 11)) 83 ((4 * (dt 79 10)) + 3).toNat := hF137 83 (by decide) _
              refine go_ret (k := 1) (r := some (.inl 0)) (w1 := (SH, dt135)) (fun _ => rfl) ?_
              exact ⟨dt135, rfl, hI136, hF138, (Or.inl ⟨rfl, ⟨by first | trivial | omega, by first | trivial | omega, by first | trivial | omega⟩⟩)⟩
            · skip
              obtain ⟨h134_0, h134_1, h134_2, h134_3, h134_4, h134_5, h134_6, h134_7, h134_8⟩ := h134
              have BL145 : ∀ j : Nat, (j : Int) < 4 * dt 79 10 → dt135 83 j = dt 83 j := fun j hj => (hF137 83 (by decide) j).trans (BL128 j hj)
              have y146 : dt135 83 ((4 * (dt 79 10))).toNat = (u2 (u2 dt78 83 (((4 * (dt78 79 10)) + 2).toNat) (dt78 79 11)) 83 (((4 * (dt78 79 10)) + 3).toNat) (dt78 79 11)) 83 ((4 * (dt 79 10))).toNat := hF137 83 (by decide) _
              have y147 : dt135 83 ((4 * (dt 79 10)) + 1).toNat = (u2 (u2 dt78 83 (((4 * (dt78 79 10)) + 2).toNat) (dt78 79 11)) 83 (((4 * (dt78 79 10)) + 3).toNat) (dt78 79 11)) 83 ((4 * (dt 79 10)) + 1).toNat := hF137 83 (by decide) _
              have y148 : dt135 83 ((4 * (dt 79 10)) + 2).toNat = (u2 (u2 dt78 83 (((4 * (dt78 79 10)) + 2).toNat) (dt78 79 11)) 83 (((4 * (dt78 79 10)) + 3).toNat) (dt78 79 11)) 83 ((4 * (dt 79 10)) + 2).toNat := hF137 83 (by decide) _
              have y149 : dt135 83 ((4 * (dt 79 10)) + 3).toNat = (u2 (u2 dt78 83 (((4 * (dt78 79 10)) + 2).toNat) (dt78 79 11)) 83 (((4 * (dt78 79 10)) + 3).toNat) (dt78 79 11)) 83 ((4 * (dt 79 10)) + 3).toNat := hF137 83 (by decide) _
              refine go_ret (k := 1) (r := some (.inl 1)) (w1 := (SH, dt135)) (fun _ => rfl) ?_
              exact ⟨dt135, rfl, hI136, hF138, (Or.inr ⟨rfl, ⟨by first | trivial | omega, by exact BL145, by exact ⟨by omega, PS_fin h77_4 (by first | exact AGR_e (by assumption) | exact AGR_e rfl | exact AGR_4 (by assumption) hI (by first | assumption | rfl) (by omega)) (by omega) (by omega), fun _ => by first | omega | exact PS_fin hI (by first | exact AGR_e (by assumption) | exact AGR_e rfl) (by omega) (by omega)⟩, by first | exact AGR_4 (by assumption) h77_5 (by first | assumption | rfl) (by omega) | exact AGR_5 (by assumption) hI (by first | assumption | rfl) h77_5 (by first | assumption | rfl) (by omega) (by omega), by first | trivial | omega, by first | trivial | omega, by first | trivial | omega, by first | trivial | omega, by exact (InvC_get (by assumption) 79 15 rfl rfl).2, by first | trivial | omega, by first | trivial | omega, by first | trivial | omega, by first | trivial | omega⟩⟩)⟩
          · skip
            refine go_to (k := 1) (pc' := 155) (L' := [some (.inr (.inr (some 79))), some (.inl 0)]) (st' := [.inr (.inr (some 79))]) (w' := (SH, (u2 dt78 83 (((4 * (dt78 79 10)) + 2).toNat) (dt78 79 11)))) (fun _ => rfl) ?_
            refine go_call (Q' := _) rfl rfl rfl rfl rfl (sp_X6_next0 L xs sio (d + 30) (u2 dt78 83 (((4 * (dt78 79 10)) + 2).toNat) (dt78 79 11)) hI94   (by first | trivial | omega)) ?_
            rintro _ _ ⟨dt151, rfl, hI152, hF153, h150⟩
            refine ⟨rfl, ?_⟩
            have hF154 : Fr [79, 83, 84] dt dt151 := Fr_tr hF95 hF153 (by decide)
            have E84155 : dt151 84 = dt78 84 := (funext (hF153 84 (by decide))).trans E84106
            rcases h150 with ⟨rfl, h150⟩
            obtain ⟨h150_0, h150_1, h150_2, h150_3, h150_4, h150_5, h150_6, h150_7, h150_8⟩ := h150
            have BL156 : ∀ j : Nat, (j : Int) < 4 * dt 79 10 → dt151 83 j = dt 83 j := fun j hj => (hF153 83 (by decide) j).trans (BL107 j hj)
            have y157 : dt151 83 ((4 * (dt 79 10))).toNat = (u2 dt78 83 (((4 * (dt78 79 10)) + 2).toNat) (dt78 79 11)) 83 ((4 * (dt 79 10))).toNat := hF153 83 (by decide) _
            have y158 : dt151 83 ((4 * (dt 79 10)) + 1).toNat = (u2 dt78 83 (((4 * (dt78 79 10)) + 2).toNat) (dt78 79 11)) 83 ((4 * (dt 79 10)) + 1).toNat := hF153 83 (by decide) _
            have y159 : dt151 83 ((4 * (dt 79 10)) + 2).toNat = (u2 dt78 83 (((4 * (dt78 79 10)) + 2).toNat) (dt78 79 11)) 83 ((4 * (dt 79 10)) + 2).toNat := hF153 83 (by decide) _
            have y160 : dt151 83 ((4 * (dt 79 10)) + 3).toNat = (u2 dt78 83 (((4 * (dt78 79 10)) + 2).toNat) (dt78 79 11)) 83 ((4 * (dt 79 10)) + 3).toNat := hF153 83 (by decide) _
            refine go_to (k := 1) (pc' := 159) (L' := [some (.inr (.inr (some 79))), some (.inl 0)]) (st' := [.inr (.inr (some 79))]) (w' := (SH, dt151)) (fun _ => rfl) ?_
            refine go_call (Q' := _) rfl rfl rfl rfl rfl (sp_X6_any_0 L xs sio (d + 0) dt151 hI152   (by first | trivial | omega) (by first | trivial | omega) (by first | trivial | omega)) ?_
            rintro _ _ ⟨dt162, rfl, hI163, hF164, h161⟩
            refine ⟨rfl, ?_⟩
            have hF165 : Fr [79, 83, 84] dt dt162 := Fr_tr hF154 hF164 (by decide)
            rcases h161 with ⟨rfl, h161⟩ | ⟨rfl, h161⟩
            · skip
              obtain ⟨h161_0, h161_1, h161_2, h161_3⟩ := h161
              have BL166 : ∀ j : Nat, (j : Int) < 4 * dt 79 10 → dt162 83 j = dt 83 j := fun j hj => (hF164 83 (by decide) j).trans (BL156 j hj)
              have y167 : dt162 83 ((4 * (dt 79 10))).toNat = dt151 83 ((4 * (dt 79 10))).toNat := hF164 83 (by decide) _
              have y168 : dt162 83 ((4 * (dt 79 10)) + 1).toNat = dt151 83 ((4 * (dt 79 10)) + 1).toNat := hF164 83 (by decide) _
              have y169 : dt162 83 ((4 * (dt 79 10)) + 2).toNat = dt151 83 ((4 * (dt 79 10)) + 2).toNat := hF164 83 (by decide) _
              have y170 : dt162 83 ((4 * (dt 79 10)) + 3).toNat = dt151 83 ((4 * (dt 79 10)) + 3).toNat := hF164 83 (by decide) _
              refine go_ret (k := 3) (r := some (.inl 0)) (w1 := (SH, dt162)) (fun _ => rfl) ?_
              exact ⟨dt162, rfl, hI163, hF165, (Or.inl ⟨rfl, ⟨by first | trivial | omega, by first | trivial | omega, by first | trivial | omega⟩⟩)⟩
            · skip
              obtain ⟨h161_0, h161_1, h161_2, h161_3, h161_4, h161_5, h161_6, h161_7, h161_8, h161_9, h161_10⟩ := h161
              have BL171 : ∀ j : Nat, (j : Int) < 4 * dt 79 10 → dt162 83 j = dt 83 j := fun j hj => (hF164 83 (by decide) j).trans (BL156 j hj)
              have y172 : dt162 83 ((4 * (dt 79 10))).toNat = dt151 83 ((4 * (dt 79 10))).toNat := hF164 83 (by decide) _
              have y173 : dt162 83 ((4 * (dt 79 10)) + 1).toNat = dt151 83 ((4 * (dt 79 10)) + 1).toNat := hF164 83 (by decide) _
              have y174 : dt162 83 ((4 * (dt 79 10)) + 2).toNat = dt151 83 ((4 * (dt 79 10)) + 2).toNat := hF164 83 (by decide) _
              have y175 : dt162 83 ((4 * (dt 79 10)) + 3).toNat = dt151 83 ((4 * (dt 79 10)) + 3).toNat := hF164 83 (by decide) _
              have r176 : 0 ≤ dt162 79 10 ∧ dt162 79 10 ≤ 24 := InvC_get hI163 79 10 rfl rfl
              have r177 : 0 ≤ dt162 79 11 ∧ dt162 79 11 ≤ 510 := InvC_get hI163 79 11 rfl rfl
              refine go_to (k := 11) (pc' := 183) (L' := [some (.inr (.inr (some 79))), some (.inl 0)]) (st' := [.inl (dt162 79 11), .inl ((4 * (dt162 79 10)) + 3), .inr (.inr (some 83))]) (w' := (SH, dt162)) (fun _ => rfl) ?_
              have hI178 : InvC (u2 dt162 83 (((4 * (dt162 79 10)) + 3).toNat) (dt162 79 11)) := InvC_u2 hI163 (lo := -2147483648) (hi := 2147483647) rfl rfl rfl (by omega) (by omega)
              have hF179 : Fr [79, 83, 84] dt (u2 dt162 83 (((4 * (dt162 79 10)) + 3).toNat) (dt162 79 11)) := Fr_u2 hF165 (by decide)
              have w180 : (u2 dt162 83 (((4 * (dt162 79 10)) + 3).toNat) (dt162 79 11)) 79 2 = dt162 79 2 := rfl
              have w181 : (u2 dt162 83 (((4 * (dt162 79 10)) + 3).toNat) (dt162 79 11)) 79 9 = dt162 79 9 := rfl
              have w182 : (u2 dt162 83 (((4 * (dt162 79 10)) + 3).toNat) (dt162 79 11)) 79 10 = dt162 79 10 := rfl
              have w183 : (u2 dt162 83 (((4 * (dt162 79 10)) + 3).toNat) (dt162 79 11)) 79 11 = dt162 79 11 := rfl
              have w184 : (u2 dt162 83 (((4 * (dt162 79 10)) + 3).toNat) (dt162 79 11)) 79 12 = dt162 79 12 := rfl
              have w185 : (u2 dt162 83 (((4 * (dt162 79 10)) + 3).toNat) (dt162 79 11)) 79 13 = dt162 79 13 := rfl
              have w186 : (u2 dt162 83 (((4 * (dt162 79 10)) + 3).toNat) (dt162 79 11)) 79 14 = dt162 79 14 := rfl
              have w187 : (u2 dt162 83 (((4 * (dt162 79 10)) + 3).toNat) (dt162 79 11)) 79 15 = dt162 79 15 := rfl
              have w188 : (u2 dt162 83 (((4 * (dt162 79 10)) + 3).toNat) (dt162 79 11)) 79 16 = dt162 79 16 := rfl
              have w189 : (u2 dt162 83 (((4 * (dt162 79 10)) + 3).toNat) (dt162 79 11)) 79 20 = dt162 79 20 := rfl
              have E84190 : (u2 dt162 83 (((4 * (dt162 79 10)) + 3).toNat) (dt162 79 11)) 84 = dt162 84 := funext fun _ => u2_ne (by omega)
              have ex192 : ((4 * (dt 79 10)) + 3).toNat = ((4 * (dt162 79 10)) + 3).toNat := by omega
              have BL191 : ∀ j : Nat, (j : Int) < 4 * dt 79 10 → (u2 dt162 83 (((4 * (dt162 79 10)) + 3).toNat) (dt162 79 11)) 83 j = dt 83 j := fun j hj => (u2_ne (by omega)).trans (BL171 j hj)
              have y193 : (u2 dt162 83 (((4 * (dt162 79 10)) + 3).toNat) (dt162 79 11)) 83 ((4 * (dt 79 10))).toNat = dt162 83 ((4 * (dt 79 10))).toNat := u2_ne (by omega)
              have y194 : (u2 dt162 83 (((4 * (dt162 79 10)) + 3).toNat) (dt162 79 11)) 83 ((4 * (dt 79 10)) + 1).toNat = dt162 83 ((4 * (dt 79 10)) + 1).toNat := u2_ne (by omega)
              have y195 : (u2 dt162 83 (((4 * (dt162 79 10)) + 3).toNat) (dt162 79 11)) 83 ((4 * (dt 79 10)) + 2).toNat = dt162 83 ((4 * (dt 79 10)) + 2).toNat := u2_ne (by omega)
              have y196 : (u2 dt162 83 (((4 * (dt162 79 10)) + 3).toNat) (dt162 79 11)) 83 ((4 * (dt 79 10)) + 3).toNat = dt162 79 11 := by rw [ex192]; exact u2_eq
              refine go_smp (L' := [some (.inr (.inr (some 79))), some (.inl 0)]) (st' := []) (w' := (SH, (u2 dt162 83 (((4 * (dt162 79 10)) + 3).toNat) (dt162 79 11)))) rfl rfl (s_iast (n := 64) rfl ⟨by omega, by omega⟩ ⟨by omega, by omega⟩) ?_
              refine go_to (k := 2) (pc' := 188) (L' := [some (.inr (.inr (some 79))), some (.inl 0)]) (st' := [.inl 159, .inr (.inr (some 79))]) (w' := (SH, (u2 dt162 83 (((4 * (dt162 79 10)) + 3).toNat) (dt162 79 11)))) (fun _ => rfl) ?_
              refine go_call (Q' := _) rfl rfl rfl rfl rfl (sp_X6_need0 L xs sio (d + 29) (u2 dt162 83 (((4 * (dt162 79 10)) + 3).toNat) (dt162 79 11)) hI178  159 ⟨by omega, by omega⟩ (by first | trivial | omega)) ?_
              rintro _ _ ⟨dt198, rfl, hI199, hF200, h197⟩
              refine ⟨rfl, ?_⟩
              have hF201 : Fr [79, 83, 84] dt dt198 := Fr_tr hF179 hF200 (by decide)
              have E84202 : dt198 84 = dt162 84 := (funext (hF200 84 (by decide))).trans E84190
              rcases h197 with ⟨rfl, h197⟩ | ⟨rfl, h197⟩
              · skip
                obtain ⟨h197_0, h197_1, h197_2, h197_3⟩ := h197
                have BL203 : ∀ j : Nat, (j : Int) < 4 * dt 79 10 → dt198 83 j = dt 83 j := fun j hj => (hF200 83 (by decide) j).trans (BL191 j hj)
                have y204 : dt198 83 ((4 * (dt 79 10))).toNat = (u2 dt162 83 (((4 * (dt162 79 10)) + 3).toNat) (dt162 79 11)) 83 ((4 * (dt 79 10))).toNat := hF200 83 (by decide) _
                have y205 : dt198 83 ((4 * (dt 79 10)) + 1).toNat = (u2 dt162 83 (((4 * (dt162 79 10)) + 3).toNat) (dt162 79 11)) 83 ((4 * (dt 79 10)) + 1).toNat := hF200 83 (by decide) _
                have y206 : dt198 83 ((4 * (dt 79 10)) + 2).toNat = (u2 dt162 83 (((4 * (dt162 79 10)) + 3).toNat) (dt162 79 11)) 83 ((4 * (dt 79 10)) + 2).toNat := hF200 83 (by decide) _
                have y207 : dt198 83 ((4 * (dt 79 10)) + 3).toNat = (u2 dt162 83 (((4 * (dt162 79 10)) + 3).toNat) (dt162 79 11)) 83 ((4 * (dt 79 10)) + 3).toNat := hF200 83 (by decide) _
                refine go_ret (k := 1) (r := some (.inl 0)) (w1 := (SH, dt198)) (fun _ => rfl) ?_
                exact ⟨dt198, rfl, hI199, hF201, (Or.inl ⟨rfl, ⟨by first | trivial | omega, by first | trivial | omega, by first | trivial | omega⟩⟩)⟩
              · skip
                obtain ⟨h197_0, h197_1, h197_2, h197_3, h197_4, h197_5, h197_6, h197_7, h197_8⟩ := h197
                have BL208 : ∀ j : Nat, (j : Int) < 4 * dt 79 10 → dt198 83 j = dt 83 j := fun j hj => (hF200 83 (by decide) j).trans (BL191 j hj)
                have y209 : dt198 83 ((4 * (dt 79 10))).toNat = (u2 dt162 83 (((4 * (dt162 79 10)) + 3).toNat) (dt162 79 11)) 83 ((4 * (dt 79 10))).toNat := hF200 83 (by decide) _
                have y210 : dt198 83 ((4 * (dt 79 10)) + 1).toNat = (u2 dt162 83 (((4 * (dt162 79 10)) + 3).toNat) (dt162 79 11)) 83 ((4 * (dt 79 10)) + 1).toNat := hF200 83 (by decide) _
                have y211 : dt198 83 ((4 * (dt 79 10)) + 2).toNat = (u2 dt162 83 (((4 * (dt162 79 10)) + 3).toNat) (dt162 79 11)) 83 ((4 * (dt 79 10)) + 2).toNat := hF200 83 (by decide) _
                have y212 : dt198 83 ((4 * (dt 79 10)) + 3).toNat = (u2 dt162 83 (((4 * (dt162 79 10)) + 3).toNat) (dt162 79 11)) 83 ((4 * (dt 79 10)) + 3).toNat := hF200 83 (by decide) _
                refine go_ret (k := 1) (r := some (.inl 1)) (w1 := (SH, dt198)) (fun _ => rfl) ?_
                exact ⟨dt198, rfl, hI199, hF201, (Or.inr ⟨rfl, ⟨by first | trivial | omega, by exact BL208, by exact ⟨by omega, PS_fin h77_4 (by first | exact AGR_e (by assumption) | exact AGR_e rfl | exact AGR_4 (by assumption) h161_5 (by first | assumption | rfl) (by omega)) (by omega) (by omega), fun _ => by first | omega | exact PS_fin h161_4 (by first | exact AGR_e (by assumption) | exact AGR_e rfl) (by omega) (by omega)⟩, by first | exact AGR_4 (by assumption) h77_5 (by first | assumption | rfl) (by omega) | exact AGR_5 (by assumption) h161_5 (by first | assumption | rfl) h77_5 (by first | assumption | rfl) (by omega) (by omega), by first | trivial | omega, by first | trivial | omega, by first | trivial | omega, by first | trivial | omega, by exact (InvC_get (by assumption) 79 15 rfl rfl).2, by first | trivial | omega, by first | trivial | omega, by first | trivial | omega, by first | trivial | omega⟩⟩)⟩
      · skip
        refine go_to (k := 5) (pc' := 56) (L' := [some (.inr (.inr (some 79))), some (.inl 1)]) (st' := [.inl 0, .inr (.inr (some 79))]) (w' := (SH, dt)) (fun _ => rfl) ?_
        have hI213 : InvC (u2 dt 79 20 0) := InvC_u2 hI (lo := 0) (hi := 8) rfl rfl rfl (by omega) (by omega)
        have hF214 : Fr [79, 83, 84] dt (u2 dt 79 20 0) := Fr_u2 hF (by decide)
        have w215 : (u2 dt 79 20 0) 79 2 = dt 79 2 := rfl
        have w216 : (u2 dt 79 20 0) 79 9 = dt 79 9 := rfl
        have w217 : (u2 dt 79 20 0) 79 10 = dt 79 10 := rfl
        have w218 : (u2 dt 79 20 0) 79 11 = dt 79 11 := rfl
        have w219 : (u2 dt 79 20 0) 79 12 = dt 79 12 := rfl
        have w220 : (u2 dt 79 20 0) 79 13 = dt 79 13 := rfl
        have w221 : (u2 dt 79 20 0) 79 14 = dt 79 14 := rfl
        have w222 : (u2 dt 79 20 0) 79 15 = dt 79 15 := rfl
        have w223 : (u2 dt 79 20 0) 79 16 = dt 79 16 := rfl
        have w224 : (u2 dt 79 20 0) 79 20 = 0 := rfl
        have E84225 : (u2 dt 79 20 0) 84 = dt 84 := funext fun _ => u2_ne (by omega)
        have BL226 : ∀ j : Nat, (j : Int) < 4 * dt 79 10 → (u2 dt 79 20 0) 83 j = dt 83 j := fun j hj => (u2_ne (by omega)).trans ((fun _ _ => rfl) j hj)
        have y227 : (u2 dt 79 20 0) 83 ((4 * (dt 79 10))).toNat = dt 83 ((4 * (dt 79 10))).toNat := u2_ne (by omega)
        have y228 : (u2 dt 79 20 0) 83 ((4 * (dt 79 10)) + 1).toNat = dt 83 ((4 * (dt 79 10)) + 1).toNat := u2_ne (by omega)
        have y229 : (u2 dt 79 20 0) 83 ((4 * (dt 79 10)) + 2).toNat = dt 83 ((4 * (dt 79 10)) + 2).toNat := u2_ne (by omega)
        have y230 : (u2 dt 79 20 0) 83 ((4 * (dt 79 10)) + 3).toNat = dt 83 ((4 * (dt 79 10)) + 3).toNat := u2_ne (by omega)
        refine go_smp (L' := [some (.inr (.inr (some 79))), some (.inl 1)]) (st' := []) (w' := (SH, (u2 dt 79 20 0))) rfl rfl (s_pf rfl rfl rfl rfl ⟨by omega, by omega⟩) ?_
        refine go_to (k := 1) (pc' := 60) (L' := [some (.inr (.inr (some 79))), some (.inl 1)]) (st' := [.inr (.inr (some 79))]) (w' := (SH, (u2 dt 79 20 0))) (fun _ => rfl) ?_
        refine go_call (Q' := _) rfl rfl rfl rfl rfl (sp_X6_next0 L xs sio (d + 30) (u2 dt 79 20 0) hI213   (by first | trivial | omega)) ?_
        rintro _ _ ⟨dt232, rfl, hI233, hF234, h231⟩
        refine ⟨rfl, ?_⟩
        have hF235 : Fr [79, 83, 84] dt dt232 := Fr_tr hF214 hF234 (by decide)
        have E84236 : dt232 84 = dt 84 := (funext (hF234 84 (by decide))).trans E84225
        rcases h231 with ⟨rfl, h231⟩
        obtain ⟨h231_0, h231_1, h231_2, h231_3, h231_4, h231_5, h231_6, h231_7, h231_8⟩ := h231
        have BL237 : ∀ j : Nat, (j : Int) < 4 * dt 79 10 → dt232 83 j = dt 83 j := fun j hj => (hF234 83 (by decide) j).trans (BL226 j hj)
        have y238 : dt232 83 ((4 * (dt 79 10))).toNat = (u2 dt 79 20 0) 83 ((4 * (dt 79 10))).toNat := hF234 83 (by decide) _
        have y239 : dt232 83 ((4 * (dt 79 10)) + 1).toNat = (u2 dt 79 20 0) 83 ((4 * (dt 79 10)) + 1).toNat := hF234 83 (by decide) _
        have y240 : dt232 83 ((4 * (dt 79 10)) + 2).toNat = (u2 dt 79 20 0) 83 ((4 * (dt 79 10)) + 2).toNat := hF234 83 (by decide) _
        have y241 : dt232 83 ((4 * (dt 79 10)) + 3).toNat = (u2 dt 79 20 0) 83 ((4 * (dt 79 10)) + 3).toNat := hF234 83 (by decide) _
        have r242 : 0 ≤ dt232 79 10 ∧ dt232 79 10 ≤ 24 := InvC_get hI233 79 10 rfl rfl
        have r243 : 0 ≤ dt232 79 16 ∧ dt232 79 16 ≤ 9999 := InvC_get hI233 79 16 rfl rfl
        refine go_to (k := 11) (pc' := 86) (L' := [some (.inr (.inr (some 79))), some (.inl 1)]) (st' := [.inl (dt232 79 16), .inl (4 * (dt232 79 10)), .inr (.inr (some 83))]) (w' := (SH, dt232)) (fun _ => rfl) ?_
        have hI244 : InvC (u2 dt232 83 ((4 * (dt232 79 10)).toNat) (dt232 79 16)) := InvC_u2 hI233 (lo := -2147483648) (hi := 2147483647) rfl rfl rfl (by omega) (by omega)
        have hF245 : Fr [79, 83, 84] dt (u2 dt232 83 ((4 * (dt232 79 10)).toNat) (dt232 79 16)) := Fr_u2 hF235 (by decide)
        have w246 : (u2 dt232 83 ((4 * (dt232 79 10)).toNat) (dt232 79 16)) 79 2 = dt232 79 2 := rfl
        have w247 : (u2 dt232 83 ((4 * (dt232 79 10)).toNat) (dt232 79 16)) 79 9 = dt232 79 9 := rfl
        have w248 : (u2 dt232 83 ((4 * (dt232 79 10)).toNat) (dt232 79 16)) 79 10 = dt232 79 10 := rfl
        have w249 : (u2 dt232 83 ((4 * (dt232 79 10)).toNat) (dt232 79 16)) 79 11 = dt232 79 11 := rfl
        have w250 : (u2 dt232 83 ((4 * (dt232 79 10)).toNat) (dt232 79 16)) 79 12 = dt232 79 12 := rfl
        have w251 : (u2 dt232 83 ((4 * (dt232 79 10)).toNat) (dt232 79 16)) 79 13 = dt232 79 13 := rfl
        have w252 : (u2 dt232 83 ((4 * (dt232 79 10)).toNat) (dt232 79 16)) 79 14 = dt232 79 14 := rfl
        have w253 : (u2 dt232 83 ((4 * (dt232 79 10)).toNat) (dt232 79 16)) 79 15 = dt232 79 15 := rfl
        have w254 : (u2 dt232 83 ((4 * (dt232 79 10)).toNat) (dt232 79 16)) 79 16 = dt232 79 16 := rfl
        have w255 : (u2 dt232 83 ((4 * (dt232 79 10)).toNat) (dt232 79 16)) 79 20 = dt232 79 20 := rfl
        have E84256 : (u2 dt232 83 ((4 * (dt232 79 10)).toNat) (dt232 79 16)) 84 = dt 84 := (funext fun _ => u2_ne (by omega)).trans E84236
        have ex258 : ((4 * (dt 79 10))).toNat = (4 * (dt232 79 10)).toNat := by omega
        have BL257 : ∀ j : Nat, (j : Int) < 4 * dt 79 10 → (u2 dt232 83 ((4 * (dt232 79 10)).toNat) (dt232 79 16)) 83 j = dt 83 j := fun j hj => (u2_ne (by omega)).trans (BL237 j hj)
        have y259 : (u2 dt232 83 ((4 * (dt232 79 10)).toNat) (dt232 79 16)) 83 ((4 * (dt 79 10))).toNat = dt232 79 16 := by rw [ex258]; exact u2_eq
        have y260 : (u2 dt232 83 ((4 * (dt232 79 10)).toNat) (dt232 79 16)) 83 ((4 * (dt 79 10)) + 1).toNat = dt232 83 ((4 * (dt 79 10)) + 1).toNat := u2_ne (by omega)
        have y261 : (u2 dt232 83 ((4 * (dt232 79 10)).toNat) (dt232 79 16)) 83 ((4 * (dt 79 10)) + 2).toNat = dt232 83 ((4 * (dt 79 10)) + 2).toNat := u2_ne (by omega)
        have y262 : (u2 dt232 83 ((4 * (dt232 79 10)).toNat) (dt232 79 16)) 83 ((4 * (dt 79 10)) + 3).toNat = dt232 83 ((4 * (dt 79 10)) + 3).toNat := u2_ne (by omega)
        refine go_smp (L' := [some (.inr (.inr (some 79))), some (.inl 1)]) (st' := []) (w' := (SH, (u2 dt232 83 ((4 * (dt232 79 10)).toNat) (dt232 79 16)))) rfl rfl (s_iast (n := 64) rfl ⟨by omega, by omega⟩ ⟨by omega, by omega⟩) ?_
        refine go_to (k := 5) (pc' := 95) (L' := [some (.inr (.inr (some 79))), some (.inl 1)]) (st' := [.inl 7, .inl 0, .inr (.inr (some 79))]) (w' := (SH, (u2 dt232 83 ((4 * (dt232 79 10)).toNat) (dt232 79 16)))) (fun _ => rfl) ?_
        refine go_call (Q' := _) rfl rfl rfl rfl rfl (sp_X6_number L xs sio (d + 29) (u2 dt232 83 ((4 * (dt232 79 10)).toNat) (dt232 79 16)) hI244  0 ⟨by omega, by omega⟩ 7 ⟨by omega, by omega⟩ (by first | trivial | omega)) ?_
        rintro _ _ ⟨dt264, rfl, hI265, hF266, h263⟩
        refine ⟨rfl, ?_⟩
        have hF267 : Fr [79, 83, 84] dt dt264 := Fr_tr hF245 hF266 (by decide)
        have E84268 : dt264 84 = dt 84 := (funext (hF266 84 (by decide))).trans E84256
        rcases h263 with ⟨rfl, h263⟩ | ⟨rfl, h263⟩
        · skip
          obtain ⟨h263_0, h263_1, h263_2, h263_3⟩ := h263
          have BL269 : ∀ j : Nat, (j : Int) < 4 * dt 79 10 → dt264 83 j = dt 83 j := fun j hj => (hF266 83 (by decide) j).trans (BL257 j hj)
          have y270 : dt264 83 ((4 * (dt 79 10))).toNat = (u2 dt232 83 ((4 * (dt232 79 10)).toNat) (dt232 79 16)) 83 ((4 * (dt 79 10))).toNat := hF266 83 (by decide) _
          have y271 : dt264 83 ((4 * (dt 79 10)) + 1).toNat = (u2 dt232 83 ((4 * (dt232 79 10)).toNat) (dt232 79 16)) 83 ((4 * (dt 79 10)) + 1).toNat := hF266 83 (by decide) _
          have y272 : dt264 83 ((4 * (dt 79 10)) + 2).toNat = (u2 dt232 83 ((4 * (dt232 79 10)).toNat) (dt232 79 16)) 83 ((4 * (dt 79 10)) + 2).toNat := hF266 83 (by decide) _
          have y273 : dt264 83 ((4 * (dt 79 10)) + 3).toNat = (u2 dt232 83 ((4 * (dt232 79 10)).toNat) (dt232 79 16)) 83 ((4 * (dt 79 10)) + 3).toNat := hF266 83 (by decide) _
          refine go_ret (k := 3) (r := some (.inl 0)) (w1 := (SH, dt264)) (fun _ => rfl) ?_
          exact ⟨dt264, rfl, hI265, hF267, (Or.inl ⟨rfl, ⟨by first | trivial | omega, by first | trivial | omega, by first | trivial | omega⟩⟩)⟩
        · skip
          obtain ⟨h263_0, h263_1, h263_2, h263_3, h263_4, h263_5, h263_6, h263_7, h263_8, h263_9, h263_10⟩ := h263
          have BL274 : ∀ j : Nat, (j : Int) < 4 * dt 79 10 → dt264 83 j = dt 83 j := fun j hj => (hF266 83 (by decide) j).trans (BL257 j hj)
          have y275 : dt264 83 ((4 * (dt 79 10))).toNat = (u2 dt232 83 ((4 * (dt232 79 10)).toNat) (dt232 79 16)) 83 ((4 * (dt 79 10))).toNat := hF266 83 (by decide) _
          have y276 : dt264 83 ((4 * (dt 79 10)) + 1).toNat = (u2 dt232 83 ((4 * (dt232 79 10)).toNat) (dt232 79 16)) 83 ((4 * (dt 79 10)) + 1).toNat := hF266 83 (by decide) _
          have y277 : dt264 83 ((4 * (dt 79 10)) + 2).toNat = (u2 dt232 83 ((4 * (dt232 79 10)).toNat) (dt232 79 16)) 83 ((4 * (dt 79 10)) + 2).toNat := hF266 83 (by decide) _
          have y278 : dt264 83 ((4 * (dt 79 10)) + 3).toNat = (u2 dt232 83 ((4 * (dt232 79 10)).toNat) (dt232 79 16)) 83 ((4 * (dt 79 10)) + 3).toNat := hF266 83 (by decide) _
          have r279 : 0 ≤ dt264 79 10 ∧ dt264 79 10 ≤ 24 := InvC_get hI265 79 10 rfl rfl
          have r280 : 0 ≤ dt264 79 11 ∧ dt264 79 11 ≤ 510 := InvC_get hI265 79 11 rfl rfl
          refine go_to (k := 11) (pc' := 119) (L' := [some (.inr (.inr (some 79))), some (.inl 1)]) (st' := [.inl (dt264 79 11), .inl ((4 * (dt264 79 10)) + 1), .inr (.inr (some 83))]) (w' := (SH, dt264)) (fun _ => rfl) ?_
          have hI281 : InvC (u2 dt264 83 (((4 * (dt264 79 10)) + 1).toNat) (dt264 79 11)) := InvC_u2 hI265 (lo := -2147483648) (hi := 2147483647) rfl rfl rfl (by omega) (by omega)
          have hF282 : Fr [79, 83, 84] dt (u2 dt264 83 (((4 * (dt264 79 10)) + 1).toNat) (dt264 79 11)) := Fr_u2 hF267 (by decide)
          have w283 : (u2 dt264 83 (((4 * (dt264 79 10)) + 1).toNat) (dt264 79 11)) 79 2 = dt264 79 2 := rfl
          have w284 : (u2 dt264 83 (((4 * (dt264 79 10)) + 1).toNat) (dt264 79 11)) 79 9 = dt264 79 9 := rfl
          have w285 : (u2 dt264 83 (((4 * (dt264 79 10)) + 1).toNat) (dt264 79 11)) 79 10 = dt264 79 10 := rfl
          have w286 : (u2 dt264 83 (((4 * (dt264 79 10)) + 1).toNat) (dt264 79 11)) 79 11 = dt264 79 11 := rfl
          have w287 : (u2 dt264 83 (((4 * (dt264 79 10)) + 1).toNat) (dt264 79 11)) 79 12 = dt264 79 12 := rfl
          have w288 : (u2 dt264 83 (((4 * (dt264 79 10)) + 1).toNat) (dt264 79 11)) 79 13 = dt264 79 13 := rfl
          have w289 : (u2 dt264 83 (((4 * (dt264 79 10)) + 1).toNat) (dt264 79 11)) 79 14 = dt264 79 14 := rfl
          have w290 : (u2 dt264 83 (((4 * (dt264 79 10)) + 1).toNat) (dt264 79 11)) 79 15 = dt264 79 15 := rfl
          have w291 : (u2 dt264 83 (((4 * (dt264 79 10)) + 1).toNat) (dt264 79 11)) 79 16 = dt264 79 16 := rfl
          have w292 : (u2 dt264 83 (((4 * (dt264 79 10)) + 1).toNat) (dt264 79 11)) 79 20 = dt264 79 20 := rfl
          have E84293 : (u2 dt264 83 (((4 * (dt264 79 10)) + 1).toNat) (dt264 79 11)) 84 = dt 84 := (funext fun _ => u2_ne (by omega)).trans E84268
          have ex295 : ((4 * (dt 79 10)) + 1).toNat = ((4 * (dt264 79 10)) + 1).toNat := by omega
          have BL294 : ∀ j : Nat, (j : Int) < 4 * dt 79 10 → (u2 dt264 83 (((4 * (dt264 79 10)) + 1).toNat) (dt264 79 11)) 83 j = dt 83 j := fun j hj => (u2_ne (by omega)).trans (BL274 j hj)
          have y296 : (u2 dt264 83 (((4 * (dt264 79 10)) + 1).toNat) (dt264 79 11)) 83 ((4 * (dt 79 10))).toNat = dt264 83 ((4 * (dt 79 10))).toNat := u2_ne (by omega)
          have y297 : (u2 dt264 83 (((4 * (dt264 79 10)) + 1).toNat) (dt264 79 11)) 83 ((4 * (dt 79 10)) + 1).toNat = dt264 79 11 := by rw [ex295]; exact u2_eq
          have y298 : (u2 dt264 83 (((4 * (dt264 79 10)) + 1).toNat) (dt264 79 11)) 83 ((4 * (dt 79 10)) + 2).toNat = dt264 83 ((4 * (dt 79 10)) + 2).toNat := u2_ne (by omega)
          have y299 : (u2 dt264 83 (((4 * (dt264 79 10)) + 1).toNat) (dt264 79 11)) 83 ((4 * (dt 79 10)) + 3).toNat = dt264 83 ((4 * (dt 79 10)) + 3).toNat := u2_ne (by omega)
          refine go_smp (L' := [some (.inr (.inr (some 79))), some (.inl 1)]) (st' := []) (w' := (SH, (u2 dt264 83 (((4 * (dt264 79 10)) + 1).toNat) (dt264 79 11)))) rfl rfl (s_iast (n := 64) rfl ⟨by omega, by omega⟩ ⟨by omega, by omega⟩) ?_
          refine go_to (k := 1) (pc' := 121) (L' := [some (.inr (.inr (some 79))), some (.inl 1)]) (st' := [.inr (.inr (some 79))]) (w' := (SH, (u2 dt264 83 (((4 * (dt264 79 10)) + 1).toNat) (dt264 79 11)))) (fun _ => rfl) ?_
          refine go_call (Q' := _) rfl rfl rfl rfl rfl (sp_X6_sumUp L xs sio (d + 27) (u2 dt264 83 (((4 * (dt264 79 10)) + 1).toNat) (dt264 79 11)) hI281   (by first | trivial | omega) (by first | trivial | omega)) ?_
          rintro _ _ ⟨dt301, rfl, hI302, hF303, h300⟩
          refine ⟨rfl, ?_⟩
          have hF304 : Fr [79, 83, 84] dt dt301 := Fr_tr hF282 hF303 (by decide)
          rcases h300 with ⟨rfl, h300⟩ | ⟨rfl, h300⟩
          · skip
            obtain ⟨h300_0, h300_1, h300_2, h300_3⟩ := h300
            have BL305 : ∀ j : Nat, (j : Int) < 4 * dt 79 10 → dt301 83 j = dt 83 j := fun j hj => (hF303 83 (by decide) j).trans (BL294 j hj)
            have y306 : dt301 83 ((4 * (dt 79 10))).toNat = (u2 dt264 83 (((4 * (dt264 79 10)) + 1).toNat) (dt264 79 11)) 83 ((4 * (dt 79 10))).toNat := hF303 83 (by decide) _
            have y307 : dt301 83 ((4 * (dt 79 10)) + 1).toNat = (u2 dt264 83 (((4 * (dt264 79 10)) + 1).toNat) (dt264 79 11)) 83 ((4 * (dt 79 10)) + 1).toNat := hF303 83 (by decide) _
            have y308 : dt301 83 ((4 * (dt 79 10)) + 2).toNat = (u2 dt264 83 (((4 * (dt264 79 10)) + 1).toNat) (dt264 79 11)) 83 ((4 * (dt 79 10)) + 2).toNat := hF303 83 (by decide) _
            have y309 : dt301 83 ((4 * (dt 79 10)) + 3).toNat = (u2 dt264 83 (((4 * (dt264 79 10)) + 1).toNat) (dt264 79 11)) 83 ((4 * (dt 79 10)) + 3).toNat := hF303 83 (by decide) _
            refine go_ret (k := 3) (r := some (.inl 0)) (w1 := (SH, dt301)) (fun _ => rfl) ?_
            exact ⟨dt301, rfl, hI302, hF304, (Or.inl ⟨rfl, ⟨by first | trivial | omega, by first | trivial | omega, by first | trivial | omega⟩⟩)⟩
          · skip
            obtain ⟨h300_0, h300_1, h300_2, h300_3, h300_4, h300_5, h300_6, h300_7, h300_8, h300_9, h300_10⟩ := h300
            have BL310 : ∀ j : Nat, (j : Int) < 4 * dt 79 10 → dt301 83 j = dt 83 j := fun j hj => (hF303 83 (by decide) j).trans (BL294 j hj)
            have y311 : dt301 83 ((4 * (dt 79 10))).toNat = (u2 dt264 83 (((4 * (dt264 79 10)) + 1).toNat) (dt264 79 11)) 83 ((4 * (dt 79 10))).toNat := hF303 83 (by decide) _
            have y312 : dt301 83 ((4 * (dt 79 10)) + 1).toNat = (u2 dt264 83 (((4 * (dt264 79 10)) + 1).toNat) (dt264 79 11)) 83 ((4 * (dt 79 10)) + 1).toNat := hF303 83 (by decide) _
            have y313 : dt301 83 ((4 * (dt 79 10)) + 2).toNat = (u2 dt264 83 (((4 * (dt264 79 10)) + 1).toNat) (dt264 79 11)) 83 ((4 * (dt 79 10)) + 2).toNat := hF303 83 (by decide) _
            have y314 : dt301 83 ((4 * (dt 79 10)) + 3).toNat = (u2 dt264 83 (((4 * (dt264 79 10)) + 1).toNat) (dt264 79 11)) 83 ((4 * (dt 79 10)) + 3).toNat := hF303 83 (by decide) _
            have r315 : 0 ≤ dt301 79 10 ∧ dt301 79 10 ≤ 24 := InvC_get hI302 79 10 rfl rfl
            have r316 : 0 ≤ dt301 79 11 ∧ dt301 79 11 ≤ 510 := InvC_get hI302 79 11 rfl rfl
            refine go_to (k := 11) (pc' := 145) (L' := [some (.inr (.inr (some 79))), some (.inl 1)]) (st' := [.inl (dt301 79 11), .inl ((4 * (dt301 79 10)) + 2), .inr (.inr (some 83))]) (w' := (SH, dt301)) (fun _ => rfl) ?_
            have hI317 : InvC (u2 dt301 83 (((4 * (dt301 79 10)) + 2).toNat) (dt301 79 11)) := InvC_u2 hI302 (lo := -2147483648) (hi := 2147483647) rfl rfl rfl (by omega) (by omega)
            have hF318 : Fr [79, 83, 84] dt (u2 dt301 83 (((4 * (dt301 79 10)) + 2).toNat) (dt301 79 11)) := Fr_u2 hF304 (by decide)
            have w319 : (u2 dt301 83 (((4 * (dt301 79 10)) + 2).toNat) (dt301 79 11)) 79 2 = dt301 79 2 := rfl
            have w320 : (u2 dt301 83 (((4 * (dt301 79 10)) + 2).toNat) (dt301 79 11)) 79 9 = dt301 79 9 := rfl
            have w321 : (u2 dt301 83 (((4 * (dt301 79 10)) + 2).toNat) (dt301 79 11)) 79 10 = dt301 79 10 := rfl
            have w322 : (u2 dt301 83 (((4 * (dt301 79 10)) + 2).toNat) (dt301 79 11)) 79 11 = dt301 79 11 := rfl
            have w323 : (u2 dt301 83 (((4 * (dt301 79 10)) + 2).toNat) (dt301 79 11)) 79 12 = dt301 79 12 := rfl
            have w324 : (u2 dt301 83 (((4 * (dt301 79 10)) + 2).toNat) (dt301 79 11)) 79 13 = dt301 79 13 := rfl
            have w325 : (u2 dt301 83 (((4 * (dt301 79 10)) + 2).toNat) (dt301 79 11)) 79 14 = dt301 79 14 := rfl
            have w326 : (u2 dt301 83 (((4 * (dt301 79 10)) + 2).toNat) (dt301 79 11)) 79 15 = dt301 79 15 := rfl
            have w327 : (u2 dt301 83 (((4 * (dt301 79 10)) + 2).toNat) (dt301 79 11)) 79 16 = dt301 79 16 := rfl
            have w328 : (u2 dt301 83 (((4 * (dt301 79 10)) + 2).toNat) (dt301 79 11)) 79 20 = dt301 79 20 := rfl
            have E84329 : (u2 dt301 83 (((4 * (dt301 79 10)) + 2).toNat) (dt301 79 11)) 84 = dt301 84 := funext fun _ => u2_ne (by omega)
            have ex331 : ((4 * (dt 79 10)) + 2).toNat = ((4 * (dt301 79 10)) + 2).toNat := by omega
            have BL330 : ∀ j : Nat, (j : Int) < 4 * dt 79 10 → (u2 dt301 83 (((4 * (dt301 79 10)) + 2).toNat) (dt301 79 11)) 83 j = dt 83 j := fun j hj => (u2_ne (by omega)).trans (BL310 j hj)
            have y332 : (u2 dt301 83 (((4 * (dt301 79 10)) + 2).toNat) (dt301 79 11)) 83 ((4 * (dt 79 10))).toNat = dt301 83 ((4 * (dt 79 10))).toNat := u2_ne (by omega)
            have y333 : (u2 dt301 83 (((4 * (dt301 79 10)) + 2).toNat) (dt301 79 11)) 83 ((4 * (dt 79 10)) + 1).toNat = dt301 83 ((4 * (dt 79 10)) + 1).toNat := u2_ne (by omega)
            have y334 : (u2 dt301 83 (((4 * (dt301 79 10)) + 2).toNat) (dt301 79 11)) 83 ((4 * (dt 79 10)) + 2).toNat = dt301 79 11 := by rw [ex331]; exact u2_eq
            have y335 : (u2 dt301 83 (((4 * (dt301 79 10)) + 2).toNat) (dt301 79 11)) 83 ((4 * (dt 79 10)) + 3).toNat = dt301 83 ((4 * (dt 79 10)) + 3).toNat := u2_ne (by omega)
            refine go_smp (L' := [some (.inr (.inr (some 79))), some (.inl 1)]) (st' := []) (w' := (SH, (u2 dt301 83 (((4 * (dt301 79 10)) + 2).toNat) (dt301 79 11)))) rfl rfl (s_iast (n := 64) rfl ⟨by omega, by omega⟩ ⟨by omega, by omega⟩) ?_
            have r336 : (-2147483648) ≤ dt301 79 14 ∧ dt301 79 14 ≤ 2147483647 := InvC_get hI302 79 14 rfl rfl
            refine go_if (k := 4) (p1 := 167) (p2 := 154) (L' := [some (.inr (.inr (some 79))), some (.inl 1)]) (st' := []) (w' := (SH, (u2 dt301 83 (((4 * (dt301 79 10)) + 2).toNat) (dt301 79 11)))) (fun _ => rfl) (c_ne (a := dt301 79 14) (b := 3) ⟨by omega, by omega⟩ ⟨by omega, by omega⟩) (fun c337 => ?_) (fun c337 => ?_)
            · skip
              refine go_to (k := 10) (pc' := 183) (L' := [some (.inr (.inr (some 79))), some (.inl 1)]) (st' := [.inl (dt301 79 11), .inl ((4 * (dt301 79 10)) + 3), .inr (.inr (some 83))]) (w' := (SH, (u2 dt301 83 (((4 * (dt301 79 10)) + 2).toNat) (dt301 79 11)))) (fun _ => rfl) ?_
              have hI338 : InvC (u2 (u2 dt301 83 (((4 * (dt301 79 10)) + 2).toNat) (dt301 79 11)) 83 (((4 * (dt301 79 10)) + 3).toNat) (dt301 79 11)) := InvC_u2 hI317 (lo := -2147483648) (hi := 2147483647) rfl rfl rfl (by omega) (by omega)
              have hF339 : Fr [79, 83, 84] dt (u2 (u2 dt301 83 (((4 * (dt301 79 10)) + 2).toNat) (dt301 79 11)) 83 (((4 * (dt301 79 10)) + 3).toNat) (dt301 79 11)) := Fr_u2 hF318 (by decide)
              have w340 : (u2 (u2 dt301 83 (((4 * (dt301 79 10)) + 2).toNat) (dt301 79 11)) 83 (((4 * (dt301 79 10)) + 3).toNat) (dt301 79 11)) 79 2 = (u2 dt301 83 (((4 * (dt301 79 10)) + 2).toNat) (dt301 79 11)) 79 2 := rfl
              have w341 : (u2 (u2 dt301 83 (((4 * (dt301 79 10)) + 2).toNat) (dt301 79 11)) 83 (((4 * (dt301 79 10)) + 3).toNat) (dt301 79 11)) 79 9 = (u2 dt301 83 (((4 * (dt301 79 10)) + 2).toNat) (dt301 79 11)) 79 9 := rfl
              have w342 : (u2 (u2 dt301 83 (((4 * (dt301 79 10)) + 2).toNat) (dt301 79 11)) 83 (((4 * (dt301 79 10)) + 3).toNat) (dt301 79 11)) 79 10 = (u2 dt301 83 (((4 * (dt301 79 10)) + 2).toNat) (dt301 79 11)) 79 10 := rfl
              have w343 : (u2 (u2 dt301 83 (((4 * (dt301 79 10)) + 2).toNat) (dt301 79 11)) 83 (((4 * (dt301 79 10)) + 3).toNat) (dt301 79 11)) 79 11 = (u2 dt301 83 (((4 * (dt301 79 10)) + 2).toNat) (dt301 79 11)) 79 11 := rfl
              have w344 : (u2 (u2 dt301 83 (((4 * (dt301 79 10)) + 2).toNat) (dt301 79 11)) 83 (((4 * (dt301 79 10)) + 3).toNat) (dt301 79 11)) 79 12 = (u2 dt301 83 (((4 * (dt301 79 10)) + 2).toNat) (dt301 79 11)) 79 12 := rfl
              have w345 : (u2 (u2 dt301 83 (((4 * (dt301 79 10)) + 2).toNat) (dt301 79 11)) 83 (((4 * (dt301 79 10)) + 3).toNat) (dt301 79 11)) 79 13 = (u2 dt301 83 (((4 * (dt301 79 10)) + 2).toNat) (dt301 79 11)) 79 13 := rfl
              have w346 : (u2 (u2 dt301 83 (((4 * (dt301 79 10)) + 2).toNat) (dt301 79 11)) 83 (((4 * (dt301 79 10)) + 3).toNat) (dt301 79 11)) 79 14 = (u2 dt301 83 (((4 * (dt301 79 10)) + 2).toNat) (dt301 79 11)) 79 14 := rfl
              have w347 : (u2 (u2 dt301 83 (((4 * (dt301 79 10)) + 2).toNat) (dt301 79 11)) 83 (((4 * (dt301 79 10)) + 3).toNat) (dt301 79 11)) 79 15 = (u2 dt301 83 (((4 * (dt301 79 10)) + 2).toNat) (dt301 79 11)) 79 15 := rfl
              have w348 : (u2 (u2 dt301 83 (((4 * (dt301 79 10)) + 2).toNat) (dt301 79 11)) 83 (((4 * (dt301 79 10)) + 3).toNat) (dt301 79 11)) 79 16 = (u2 dt301 83 (((4 * (dt301 79 10)) + 2).toNat) (dt301 79 11)) 79 16 := rfl
              have w349 : (u2 (u2 dt301 83 (((4 * (dt301 79 10)) + 2).toNat) (dt301 79 11)) 83 (((4 * (dt301 79 10)) + 3).toNat) (dt301 79 11)) 79 20 = (u2 dt301 83 (((4 * (dt301 79 10)) + 2).toNat) (dt301 79 11)) 79 20 := rfl
              have E84350 : (u2 (u2 dt301 83 (((4 * (dt301 79 10)) + 2).toNat) (dt301 79 11)) 83 (((4 * (dt301 79 10)) + 3).toNat) (dt301 79 11)) 84 = dt301 84 := (funext fun _ => u2_ne (by omega)).trans E84329
              have ex352 : ((4 * (dt 79 10)) + 3).toNat = ((4 * (dt301 79 10)) + 3).toNat := by omega
              have BL351 : ∀ j : Nat, (j : Int) < 4 * dt 79 10 → (u2 (u2 dt301 83 (((4 * (dt301 79 10)) + 2).toNat) (dt301 79 11)) 83 (((4 * (dt301 79 10)) + 3).toNat) (dt301 79 11)) 83 j = dt 83 j := fun j hj => (u2_ne (by omega)).trans (BL330 j hj)
              have y353 : (u2 (u2 dt301 83 (((4 * (dt301 79 10)) + 2).toNat) (dt301 79 11)) 83 (((4 * (dt301 79 10)) + 3).toNat) (dt301 79 11)) 83 ((4 * (dt 79 10))).toNat = (u2 dt301 83 (((4 * (dt301 79 10)) + 2).toNat) (dt301 79 11)) 83 ((4 * (dt 79 10))).toNat := u2_ne (by omega)
              have y354 : (u2 (u2 dt301 83 (((4 * (dt301 79 10)) + 2).toNat) (dt301 79 11)) 83 (((4 * (dt301 79 10)) + 3).toNat) (dt301 79 11)) 83 ((4 * (dt 79 10)) + 1).toNat = (u2 dt301 83 (((4 * (dt301 79 10)) + 2).toNat) (dt301 79 11)) 83 ((4 * (dt 79 10)) + 1).toNat := u2_ne (by omega)
              have y355 : (u2 (u2 dt301 83 (((4 * (dt301 79 10)) + 2).toNat) (dt301 79 11)) 83 (((4 * (dt301 79 10)) + 3).toNat) (dt301 79 11)) 83 ((4 * (dt 79 10)) + 2).toNat = (u2 dt301 83 (((4 * (dt301 79 10)) + 2).toNat) (dt301 79 11)) 83 ((4 * (dt 79 10)) + 2).toNat := u2_ne (by omega)
              have y356 : (u2 (u2 dt301 83 (((4 * (dt301 79 10)) + 2).toNat) (dt301 79 11)) 83 (((4 * (dt301 79 10)) + 3).toNat) (dt301 79 11)) 83 ((4 * (dt 79 10)) + 3).toNat = dt301 79 11 := by rw [ex352]; exact u2_eq
              refine go_smp (L' := [some (.inr (.inr (some 79))), some (.inl 1)]) (st' := []) (w' := (SH, (u2 (u2 dt301 83 (((4 * (dt301 79 10)) + 2).toNat) (dt301 79 11)) 83 (((4 * (dt301 79 10)) + 3).toNat) (dt301 79 11)))) rfl rfl (s_iast (n := 64) rfl ⟨by omega, by omega⟩ ⟨by omega, by omega⟩) ?_
              refine go_to (k := 2) (pc' := 188) (L' := [some (.inr (.inr (some 79))), some (.inl 1)]) (st' := [.inl 159, .inr (.inr (some 79))]) (w' := (SH, (u2 (u2 dt301 83 (((4 * (dt301 79 10)) + 2).toNat) (dt301 79 11)) 83 (((4 * (dt301 79 10)) + 3).toNat) (dt301 79 11)))) (fun _ => rfl) ?_
              refine go_call (Q' := _) rfl rfl rfl rfl rfl (sp_X6_need0 L xs sio (d + 29) (u2 (u2 dt301 83 (((4 * (dt301 79 10)) + 2).toNat) (dt301 79 11)) 83 (((4 * (dt301 79 10)) + 3).toNat) (dt301 79 11)) hI338  159 ⟨by omega, by omega⟩ (by first | trivial | omega)) ?_
              rintro _ _ ⟨dt358, rfl, hI359, hF360, h357⟩
              refine ⟨rfl, ?_⟩
              have hF361 : Fr [79, 83, 84] dt dt358 := Fr_tr hF339 hF360 (by decide)
              have E84362 : dt358 84 = dt301 84 := (funext (hF360 84 (by decide))).trans E84350
              rcases h357 with ⟨rfl, h357⟩ | ⟨rfl, h357⟩
              · skip
                obtain ⟨h357_0, h357_1, h357_2, h357_3⟩ := h357
                have BL363 : ∀ j : Nat, (j : Int) < 4 * dt 79 10 → dt358 83 j = dt 83 j := fun j hj => (hF360 83 (by decide) j).trans (BL351 j hj)
                have y364 : dt358 83 ((4 * (dt 79 10))).toNat = (u2 (u2 dt301 83 (((4 * (dt301 79 10)) + 2).toNat) (dt301 79 11)) 83 (((4 * (dt301 79 10)) + 3).toNat) (dt301 79 11)) 83 ((4 * (dt 79 10))).toNat := hF360 83 (by decide) _
                have y365 : dt358 83 ((4 * (dt 79 10)) + 1).toNat = (u2 (u2 dt301 83 (((4 * (dt301 79 10)) + 2).toNat) (dt301 79 11)) 83 (((4 * (dt301 79 10)) + 3).toNat) (dt301 79 11)) 83 ((4 * (dt 79 10)) + 1).toNat := hF360 83 (by decide) _
                have y366 : dt358 83 ((4 * (dt 79 10)) + 2).toNat = (u2 (u2 dt301 83 (((4 * (dt301 79 10)) + 2).toNat) (dt301 79 11)) 83 (((4 * (dt301 79 10)) + 3).toNat) (dt301 79 11)) 83 ((4 * (dt 79 10)) + 2).toNat := hF360 83 (by decide) _
                have y367 : dt358 83 ((4 * (dt 79 10)) + 3).toNat = (u2 (u2 dt301 83 (((4 * (dt301 79 10)) + 2).toNat) (dt301 79 11)) 83 (((4 * (dt301 79 10)) + 3).toNat) (dt301 79 11)) 83 ((4 * (dt 79 10)) + 3).toNat := hF360 83 (by decide) _
                refine go_ret (k := 1) (r := some (.inl 0)) (w1 := (SH, dt358)) (fun _ => rfl) ?_
                exact ⟨dt358, rfl, hI359, hF361, (Or.inl ⟨rfl, ⟨by first | trivial | omega, by first | trivial | omega, by first | trivial | omega⟩⟩)⟩
              · skip
                obtain ⟨h357_0, h357_1, h357_2, h357_3, h357_4, h357_5, h357_6, h357_7, h357_8⟩ := h357
                have BL368 : ∀ j : Nat, (j : Int) < 4 * dt 79 10 → dt358 83 j = dt 83 j := fun j hj => (hF360 83 (by decide) j).trans (BL351 j hj)
                have y369 : dt358 83 ((4 * (dt 79 10))).toNat = (u2 (u2 dt301 83 (((4 * (dt301 79 10)) + 2).toNat) (dt301 79 11)) 83 (((4 * (dt301 79 10)) + 3).toNat) (dt301 79 11)) 83 ((4 * (dt 79 10))).toNat := hF360 83 (by decide) _
                have y370 : dt358 83 ((4 * (dt 79 10)) + 1).toNat = (u2 (u2 dt301 83 (((4 * (dt301 79 10)) + 2).toNat) (dt301 79 11)) 83 (((4 * (dt301 79 10)) + 3).toNat) (dt301 79 11)) 83 ((4 * (dt 79 10)) + 1).toNat := hF360 83 (by decide) _
                have y371 : dt358 83 ((4 * (dt 79 10)) + 2).toNat = (u2 (u2 dt301 83 (((4 * (dt301 79 10)) + 2).toNat) (dt301 79 11)) 83 (((4 * (dt301 79 10)) + 3).toNat) (dt301 79 11)) 83 ((4 * (dt 79 10)) + 2).toNat := hF360 83 (by decide) _
                have y372 : dt358 83 ((4 * (dt 79 10)) + 3).toNat = (u2 (u2 dt301 83 (((4 * (dt301 79 10)) + 2).toNat) (dt301 79 11)) 83 (((4 * (dt301 79 10)) + 3).toNat) (dt301 79 11)) 83 ((4 * (dt 79 10)) + 3).toNat := hF360 83 (by decide) _
                refine go_ret (k := 1) (r := some (.inl 1)) (w1 := (SH, dt358)) (fun _ => rfl) ?_
                exact ⟨dt358, rfl, hI359, hF361, (Or.inr ⟨rfl, ⟨by first | trivial | omega, by exact BL368, by exact ⟨by omega, PS_fin h300_4 (by first | exact AGR_e (by assumption) | exact AGR_e rfl | exact AGR_4 (by assumption) hI (by first | assumption | rfl) (by omega)) (by omega) (by omega), fun _ => by first | omega | exact PS_fin hI (by first | exact AGR_e (by assumption) | exact AGR_e rfl) (by omega) (by omega)⟩, by first | exact AGR_4 (by assumption) h300_5 (by first | assumption | rfl) (by omega) | exact AGR_5 (by assumption) hI (by first | assumption | rfl) h300_5 (by first | assumption | rfl) (by omega) (by omega), by first | trivial | omega, by first | trivial | omega, by first | trivial | omega, by first | trivial | omega, by exact (InvC_get (by assumption) 79 15 rfl rfl).2, by first | trivial | omega, by first | trivial | omega, by first | trivial | omega, by first | trivial | omega⟩⟩)⟩
            · skip
              refine go_to (k := 1) (pc' := 155) (L' := [some (.inr (.inr (some 79))), some (.inl 1)]) (st' := [.inr (.inr (some 79))]) (w' := (SH, (u2 dt301 83 (((4 * (dt301 79 10)) + 2).toNat) (dt301 79 11)))) (fun _ => rfl) ?_
              refine go_call (Q' := _) rfl rfl rfl rfl rfl (sp_X6_next0 L xs sio (d + 30) (u2 dt301 83 (((4 * (dt301 79 10)) + 2).toNat) (dt301 79 11)) hI317   (by first | trivial | omega)) ?_
              rintro _ _ ⟨dt374, rfl, hI375, hF376, h373⟩
              refine ⟨rfl, ?_⟩
              have hF377 : Fr [79, 83, 84] dt dt374 := Fr_tr hF318 hF376 (by decide)
              have E84378 : dt374 84 = dt301 84 := (funext (hF376 84 (by decide))).trans E84329
              rcases h373 with ⟨rfl, h373⟩
              obtain ⟨h373_0, h373_1, h373_2, h373_3, h373_4, h373_5, h373_6, h373_7, h373_8⟩ := h373
              have BL379 : ∀ j : Nat, (j : Int) < 4 * dt 79 10 → dt374 83 j = dt 83 j := fun j hj => (hF376 83 (by decide) j).trans (BL330 j hj)
              have y380 : dt374 83 ((4 * (dt 79 10))).toNat = (u2 dt301 83 (((4 * (dt301 79 10)) + 2).toNat) (dt301 79 11)) 83 ((4 * (dt 79 10))).toNat := hF376 83 (by decide) _
              have y381 : dt374 83 ((4 * (dt 79 10)) + 1).toNat = (u2 dt301 83 (((4 * (dt301 79 10)) + 2).toNat) (dt301 79 11)) 83 ((4 * (dt 79 10)) + 1).toNat := hF376 83 (by decide) _
              have y382 : dt374 83 ((4 * (dt 79 10)) + 2).toNat = (u2 dt301 83 (((4 * (dt301 79 10)) + 2).toNat) (dt301 79 11)) 83 ((4 * (dt 79 10)) + 2).toNat := hF376 83 (by decide) _
              have y383 : dt374 83 ((4 * (dt 79 10)) + 3).toNat = (u2 dt301 83 (((4 * (dt301 79 10)) + 2).toNat) (dt301 79 11)) 83 ((4 * (dt 79 10)) + 3).toNat := hF376 83 (by decide) _
              refine go_to (k := 1) (pc' := 159) (L' := [some (.inr (.inr (some 79))), some (.inl 1)]) (st' := [.inr (.inr (some 79))]) (w' := (SH, dt374)) (fun _ => rfl) ?_
              refine go_call (Q' := _) rfl rfl rfl rfl rfl (sp_X6_any_0 L xs sio (d + 0) dt374 hI375   (by first | trivial | omega) (by first | trivial | omega) (by first | trivial | omega)) ?_
              rintro _ _ ⟨dt385, rfl, hI386, hF387, h384⟩
              refine ⟨rfl, ?_⟩
              have hF388 : Fr [79, 83, 84] dt dt385 := Fr_tr hF377 hF387 (by decide)
              rcases h384 with ⟨rfl, h384⟩ | ⟨rfl, h384⟩
              · skip
                obtain ⟨h384_0, h384_1, h384_2, h384_3⟩ := h384
                have BL389 : ∀ j : Nat, (j : Int) < 4 * dt 79 10 → dt385 83 j = dt 83 j := fun j hj => (hF387 83 (by decide) j).trans (BL379 j hj)
                have y390 : dt385 83 ((4 * (dt 79 10))).toNat = dt374 83 ((4 * (dt 79 10))).toNat := hF387 83 (by decide) _
                have y391 : dt385 83 ((4 * (dt 79 10)) + 1).toNat = dt374 83 ((4 * (dt 79 10)) + 1).toNat := hF387 83 (by decide) _
                have y392 : dt385 83 ((4 * (dt 79 10)) + 2).toNat = dt374 83 ((4 * (dt 79 10)) + 2).toNat := hF387 83 (by decide) _
                have y393 : dt385 83 ((4 * (dt 79 10)) + 3).toNat = dt374 83 ((4 * (dt 79 10)) + 3).toNat := hF387 83 (by decide) _
                refine go_ret (k := 3) (r := some (.inl 0)) (w1 := (SH, dt385)) (fun _ => rfl) ?_
                exact ⟨dt385, rfl, hI386, hF388, (Or.inl ⟨rfl, ⟨by first | trivial | omega, by first | trivial | omega, by first | trivial | omega⟩⟩)⟩
              · skip
                obtain ⟨h384_0, h384_1, h384_2, h384_3, h384_4, h384_5, h384_6, h384_7, h384_8, h384_9, h384_10⟩ := h384
                have BL394 : ∀ j : Nat, (j : Int) < 4 * dt 79 10 → dt385 83 j = dt 83 j := fun j hj => (hF387 83 (by decide) j).trans (BL379 j hj)
                have y395 : dt385 83 ((4 * (dt 79 10))).toNat = dt374 83 ((4 * (dt 79 10))).toNat := hF387 83 (by decide) _
                have y396 : dt385 83 ((4 * (dt 79 10)) + 1).toNat = dt374 83 ((4 * (dt 79 10)) + 1).toNat := hF387 83 (by decide) _
                have y397 : dt385 83 ((4 * (dt 79 10)) + 2).toNat = dt374 83 ((4 * (dt 79 10)) + 2).toNat := hF387 83 (by decide) _
                have y398 : dt385 83 ((4 * (dt 79 10)) + 3).toNat = dt374 83 ((4 * (dt 79 10)) + 3).toNat := hF387 83 (by decide) _
                have r399 : 0 ≤ dt385 79 10 ∧ dt385 79 10 ≤ 24 := InvC_get hI386 79 10 rfl rfl
                have r400 : 0 ≤ dt385 79 11 ∧ dt385 79 11 ≤ 510 := InvC_get hI386 79 11 rfl rfl
                refine go_to (k := 11) (pc' := 183) (L' := [some (.inr (.inr (some 79))), some (.inl 1)]) (st' := [.inl (dt385 79 11), .inl ((4 * (dt385 79 10)) + 3), .inr (.inr (some 83))]) (w' := (SH, dt385)) (fun _ => rfl) ?_
                have hI401 : InvC (u2 dt385 83 (((4 * (dt385 79 10)) + 3).toNat) (dt385 79 11)) := InvC_u2 hI386 (lo := -2147483648) (hi := 2147483647) rfl rfl rfl (by omega) (by omega)
                have hF402 : Fr [79, 83, 84] dt (u2 dt385 83 (((4 * (dt385 79 10)) + 3).toNat) (dt385 79 11)) := Fr_u2 hF388 (by decide)
                have w403 : (u2 dt385 83 (((4 * (dt385 79 10)) + 3).toNat) (dt385 79 11)) 79 2 = dt385 79 2 := rfl
                have w404 : (u2 dt385 83 (((4 * (dt385 79 10)) + 3).toNat) (dt385 79 11)) 79 9 = dt385 79 9 := rfl
                have w405 : (u2 dt385 83 (((4 * (dt385 79 10)) + 3).toNat) (dt385 79 11)) 79 10 = dt385 79 10 := rfl
                have w406 : (u2 dt385 83 (((4 * (dt385 79 10)) + 3).toNat) (dt385 79 11)) 79 11 = dt385 79 11 := rfl
                have w407 : (u2 dt385 83 (((4 * (dt385 79 10)) + 3).toNat) (dt385 79 11)) 79 12 = dt385 79 12 := rfl
                have w408 : (u2 dt385 83 (((4 * (dt385 79 10)) + 3).toNat) (dt385 79 11)) 79 13 = dt385 79 13 := rfl
                have w409 : (u2 dt385 83 (((4 * (dt385 79 10)) + 3).toNat) (dt385 79 11)) 79 14 = dt385 79 14 := rfl
                have w410 : (u2 dt385 83 (((4 * (dt385 79 10)) + 3).toNat) (dt385 79 11)) 79 15 = dt385 79 15 := rfl
                have w411 : (u2 dt385 83 (((4 * (dt385 79 10)) + 3).toNat) (dt385 79 11)) 79 16 = dt385 79 16 := rfl
                have w412 : (u2 dt385 83 (((4 * (dt385 79 10)) + 3).toNat) (dt385 79 11)) 79 20 = dt385 79 20 := rfl
                have E84413 : (u2 dt385 83 (((4 * (dt385 79 10)) + 3).toNat) (dt385 79 11)) 84 = dt385 84 := funext fun _ => u2_ne (by omega)
                have ex415 : ((4 * (dt 79 10)) + 3).toNat = ((4 * (dt385 79 10)) + 3).toNat := by omega
                have BL414 : ∀ j : Nat, (j : Int) < 4 * dt 79 10 → (u2 dt385 83 (((4 * (dt385 79 10)) + 3).toNat) (dt385 79 11)) 83 j = dt 83 j := fun j hj => (u2_ne (by omega)).trans (BL394 j hj)
                have y416 : (u2 dt385 83 (((4 * (dt385 79 10)) + 3).toNat) (dt385 79 11)) 83 ((4 * (dt 79 10))).toNat = dt385 83 ((4 * (dt 79 10))).toNat := u2_ne (by omega)
                have y417 : (u2 dt385 83 (((4 * (dt385 79 10)) + 3).toNat) (dt385 79 11)) 83 ((4 * (dt 79 10)) + 1).toNat = dt385 83 ((4 * (dt 79 10)) + 1).toNat := u2_ne (by omega)
                have y418 : (u2 dt385 83 (((4 * (dt385 79 10)) + 3).toNat) (dt385 79 11)) 83 ((4 * (dt 79 10)) + 2).toNat = dt385 83 ((4 * (dt 79 10)) + 2).toNat := u2_ne (by omega)
                have y419 : (u2 dt385 83 (((4 * (dt385 79 10)) + 3).toNat) (dt385 79 11)) 83 ((4 * (dt 79 10)) + 3).toNat = dt385 79 11 := by rw [ex415]; exact u2_eq
                refine go_smp (L' := [some (.inr (.inr (some 79))), some (.inl 1)]) (st' := []) (w' := (SH, (u2 dt385 83 (((4 * (dt385 79 10)) + 3).toNat) (dt385 79 11)))) rfl rfl (s_iast (n := 64) rfl ⟨by omega, by omega⟩ ⟨by omega, by omega⟩) ?_
                refine go_to (k := 2) (pc' := 188) (L' := [some (.inr (.inr (some 79))), some (.inl 1)]) (st' := [.inl 159, .inr (.inr (some 79))]) (w' := (SH, (u2 dt385 83 (((4 * (dt385 79 10)) + 3).toNat) (dt385 79 11)))) (fun _ => rfl) ?_
                refine go_call (Q' := _) rfl rfl rfl rfl rfl (sp_X6_need0 L xs sio (d + 29) (u2 dt385 83 (((4 * (dt385 79 10)) + 3).toNat) (dt385 79 11)) hI401  159 ⟨by omega, by omega⟩ (by first | trivial | omega)) ?_
                rintro _ _ ⟨dt421, rfl, hI422, hF423, h420⟩
                refine ⟨rfl, ?_⟩
                have hF424 : Fr [79, 83, 84] dt dt421 := Fr_tr hF402 hF423 (by decide)
                have E84425 : dt421 84 = dt385 84 := (funext (hF423 84 (by decide))).trans E84413
                rcases h420 with ⟨rfl, h420⟩ | ⟨rfl, h420⟩
                · skip
                  obtain ⟨h420_0, h420_1, h420_2, h420_3⟩ := h420
                  have BL426 : ∀ j : Nat, (j : Int) < 4 * dt 79 10 → dt421 83 j = dt 83 j := fun j hj => (hF423 83 (by decide) j).trans (BL414 j hj)
                  have y427 : dt421 83 ((4 * (dt 79 10))).toNat = (u2 dt385 83 (((4 * (dt385 79 10)) + 3).toNat) (dt385 79 11)) 83 ((4 * (dt 79 10))).toNat := hF423 83 (by decide) _
                  have y428 : dt421 83 ((4 * (dt 79 10)) + 1).toNat = (u2 dt385 83 (((4 * (dt385 79 10)) + 3).toNat) (dt385 79 11)) 83 ((4 * (dt 79 10)) + 1).toNat := hF423 83 (by decide) _
                  have y429 : dt421 83 ((4 * (dt 79 10)) + 2).toNat = (u2 dt385 83 (((4 * (dt385 79 10)) + 3).toNat) (dt385 79 11)) 83 ((4 * (dt 79 10)) + 2).toNat := hF423 83 (by decide) _
                  have y430 : dt421 83 ((4 * (dt 79 10)) + 3).toNat = (u2 dt385 83 (((4 * (dt385 79 10)) + 3).toNat) (dt385 79 11)) 83 ((4 * (dt 79 10)) + 3).toNat := hF423 83 (by decide) _
                  refine go_ret (k := 1) (r := some (.inl 0)) (w1 := (SH, dt421)) (fun _ => rfl) ?_
                  exact ⟨dt421, rfl, hI422, hF424, (Or.inl ⟨rfl, ⟨by first | trivial | omega, by first | trivial | omega, by first | trivial | omega⟩⟩)⟩
                · skip
                  obtain ⟨h420_0, h420_1, h420_2, h420_3, h420_4, h420_5, h420_6, h420_7, h420_8⟩ := h420
                  have BL431 : ∀ j : Nat, (j : Int) < 4 * dt 79 10 → dt421 83 j = dt 83 j := fun j hj => (hF423 83 (by decide) j).trans (BL414 j hj)
                  have y432 : dt421 83 ((4 * (dt 79 10))).toNat = (u2 dt385 83 (((4 * (dt385 79 10)) + 3).toNat) (dt385 79 11)) 83 ((4 * (dt 79 10))).toNat := hF423 83 (by decide) _
                  have y433 : dt421 83 ((4 * (dt 79 10)) + 1).toNat = (u2 dt385 83 (((4 * (dt385 79 10)) + 3).toNat) (dt385 79 11)) 83 ((4 * (dt 79 10)) + 1).toNat := hF423 83 (by decide) _
                  have y434 : dt421 83 ((4 * (dt 79 10)) + 2).toNat = (u2 dt385 83 (((4 * (dt385 79 10)) + 3).toNat) (dt385 79 11)) 83 ((4 * (dt 79 10)) + 2).toNat := hF423 83 (by decide) _
                  have y435 : dt421 83 ((4 * (dt 79 10)) + 3).toNat = (u2 dt385 83 (((4 * (dt385 79 10)) + 3).toNat) (dt385 79 11)) 83 ((4 * (dt 79 10)) + 3).toNat := hF423 83 (by decide) _
                  refine go_ret (k := 1) (r := some (.inl 1)) (w1 := (SH, dt421)) (fun _ => rfl) ?_
                  exact ⟨dt421, rfl, hI422, hF424, (Or.inr ⟨rfl, ⟨by first | trivial | omega, by exact BL431, by exact ⟨by omega, PS_fin h300_4 (by first | exact AGR_e (by assumption) | exact AGR_e rfl | exact AGR_4 (by assumption) h384_5 (by first | assumption | rfl) (by omega)) (by omega) (by omega), fun _ => by first | omega | exact PS_fin h384_4 (by first | exact AGR_e (by assumption) | exact AGR_e rfl) (by omega) (by omega)⟩, by first | exact AGR_4 (by assumption) h300_5 (by first | assumption | rfl) (by omega) | exact AGR_5 (by assumption) h384_5 (by first | assumption | rfl) h300_5 (by first | assumption | rfl) (by omega) (by omega), by first | trivial | omega, by first | trivial | omega, by first | trivial | omega, by first | trivial | omega, by exact (InvC_get (by assumption) 79 15 rfl rfl).2, by first | trivial | omega, by first | trivial | omega, by first | trivial | omega, by first | trivial | omega⟩⟩)⟩
    · skip
      refine go_to (k := 2) (pc' := 35) (L' := [some (.inr (.inr (some 79))), none]) (st' := [.inl 3, .inr (.inr (some 79))]) (w' := (SH, dt)) (fun _ => rfl) ?_
      refine go_call (Q' := _) rfl rfl rfl rfl rfl (sp_X6_bad L xs sio (d + 36) dt hI  3 ⟨by omega, by omega⟩ ) ?_
      rintro _ _ ⟨dt437, rfl, hI438, hF439, h436⟩
      refine ⟨rfl, ?_⟩
      have hF440 : Fr [79, 83, 84] dt dt437 := Fr_tr hF hF439 (by decide)
      have E84441 : dt437 84 = dt 84 := funext (hF439 84 (by decide))
      rcases h436 with ⟨rfl, h436⟩
      obtain ⟨h436_0, h436_1, h436_2, h436_3, h436_4, h436_5⟩ := h436
      have BL442 : ∀ j : Nat, (j : Int) < 4 * dt 79 10 → dt437 83 j = dt 83 j := fun j hj => (hF439 83 (by decide) j).trans ((fun _ _ => rfl) j hj)
      have y443 : dt437 83 ((4 * (dt 79 10))).toNat = dt 83 ((4 * (dt 79 10))).toNat := hF439 83 (by decide) _
      have y444 : dt437 83 ((4 * (dt 79 10)) + 1).toNat = dt 83 ((4 * (dt 79 10)) + 1).toNat := hF439 83 (by decide) _
      have y445 : dt437 83 ((4 * (dt 79 10)) + 2).toNat = dt 83 ((4 * (dt 79 10)) + 2).toNat := hF439 83 (by decide) _
      have y446 : dt437 83 ((4 * (dt 79 10)) + 3).toNat = dt 83 ((4 * (dt 79 10)) + 3).toNat := hF439 83 (by decide) _
      refine go_ret (k := 1) (r := some (.inl 0)) (w1 := (SH, dt437)) (fun _ => rfl) ?_
      exact ⟨dt437, rfl, hI438, hF440, (Or.inl ⟨rfl, ⟨by first | trivial | omega, by first | trivial | omega, by first | trivial | omega⟩⟩)⟩
  · skip
    refine go_if (k := 4) (p1 := 24) (p2 := 18) (L' := [some (.inr (.inr (some 79))), none]) (st' := []) (w' := (SH, dt)) (fun _ => rfl) (c_eq (a := dt 79 14) (b := 8) ⟨by omega, by omega⟩ ⟨by omega, by omega⟩) (fun c447 => ?_) (fun c447 => ?_)
    · skip
      refine go_if (k := 4) (p1 := 39) (p2 := 33) (L' := [some (.inr (.inr (some 79))), none]) (st' := []) (w' := (SH, dt)) (fun _ => rfl) (c_ne (a := dt 79 10) (b := 16) ⟨by omega, by omega⟩ ⟨by omega, by omega⟩) (fun c448 => ?_) (fun c448 => ?_)
      · skip
        refine go_if (k := 4) (p1 := 52) (p2 := 48) (L' := [some (.inr (.inr (some 79))), none]) (st' := []) (w' := (SH, dt)) (fun _ => rfl) (c_ne (a := dt 79 14) (b := 7) ⟨by omega, by omega⟩ ⟨by omega, by omega⟩) (fun c449 => ?_) (fun c449 => ?_)
        · skip
          refine go_to (k := 4) (pc' := 56) (L' := [some (.inr (.inr (some 79))), some (.inl 0)]) (st' := [.inl 0, .inr (.inr (some 79))]) (w' := (SH, dt)) (fun _ => rfl) ?_
          have hI450 : InvC (u2 dt 79 20 0) := InvC_u2 hI (lo := 0) (hi := 8) rfl rfl rfl (by omega) (by omega)
          have hF451 : Fr [79, 83, 84] dt (u2 dt 79 20 0) := Fr_u2 hF (by decide)
          have w452 : (u2 dt 79 20 0) 79 2 = dt 79 2 := rfl
          have w453 : (u2 dt 79 20 0) 79 9 = dt 79 9 := rfl
          have w454 : (u2 dt 79 20 0) 79 10 = dt 79 10 := rfl
          have w455 : (u2 dt 79 20 0) 79 11 = dt 79 11 := rfl
          have w456 : (u2 dt 79 20 0) 79 12 = dt 79 12 := rfl
          have w457 : (u2 dt 79 20 0) 79 13 = dt 79 13 := rfl
          have w458 : (u2 dt 79 20 0) 79 14 = dt 79 14 := rfl
          have w459 : (u2 dt 79 20 0) 79 15 = dt 79 15 := rfl
          have w460 : (u2 dt 79 20 0) 79 16 = dt 79 16 := rfl
          have w461 : (u2 dt 79 20 0) 79 20 = 0 := rfl
          have E84462 : (u2 dt 79 20 0) 84 = dt 84 := funext fun _ => u2_ne (by omega)
          have BL463 : ∀ j : Nat, (j : Int) < 4 * dt 79 10 → (u2 dt 79 20 0) 83 j = dt 83 j := fun j hj => (u2_ne (by omega)).trans ((fun _ _ => rfl) j hj)
          have y464 : (u2 dt 79 20 0) 83 ((4 * (dt 79 10))).toNat = dt 83 ((4 * (dt 79 10))).toNat := u2_ne (by omega)
          have y465 : (u2 dt 79 20 0) 83 ((4 * (dt 79 10)) + 1).toNat = dt 83 ((4 * (dt 79 10)) + 1).toNat := u2_ne (by omega)
          have y466 : (u2 dt 79 20 0) 83 ((4 * (dt 79 10)) + 2).toNat = dt 83 ((4 * (dt 79 10)) + 2).toNat := u2_ne (by omega)
          have y467 : (u2 dt 79 20 0) 83 ((4 * (dt 79 10)) + 3).toNat = dt 83 ((4 * (dt 79 10)) + 3).toNat := u2_ne (by omega)
          refine go_smp (L' := [some (.inr (.inr (some 79))), some (.inl 0)]) (st' := []) (w' := (SH, (u2 dt 79 20 0))) rfl rfl (s_pf rfl rfl rfl rfl ⟨by omega, by omega⟩) ?_
          refine go_to (k := 1) (pc' := 60) (L' := [some (.inr (.inr (some 79))), some (.inl 0)]) (st' := [.inr (.inr (some 79))]) (w' := (SH, (u2 dt 79 20 0))) (fun _ => rfl) ?_
          refine go_call (Q' := _) rfl rfl rfl rfl rfl (sp_X6_next0 L xs sio (d + 30) (u2 dt 79 20 0) hI450   (by first | trivial | omega)) ?_
          rintro _ _ ⟨dt469, rfl, hI470, hF471, h468⟩
          refine ⟨rfl, ?_⟩
          have hF472 : Fr [79, 83, 84] dt dt469 := Fr_tr hF451 hF471 (by decide)
          have E84473 : dt469 84 = dt 84 := (funext (hF471 84 (by decide))).trans E84462
          rcases h468 with ⟨rfl, h468⟩
          obtain ⟨h468_0, h468_1, h468_2, h468_3, h468_4, h468_5, h468_6, h468_7, h468_8⟩ := h468
          have BL474 : ∀ j : Nat, (j : Int) < 4 * dt 79 10 → dt469 83 j = dt 83 j := fun j hj => (hF471 83 (by decide) j).trans (BL463 j hj)
          have y475 : dt469 83 ((4 * (dt 79 10))).toNat = (u2 dt 79 20 0) 83 ((4 * (dt 79 10))).toNat := hF471 83 (by decide) _
          have y476 : dt469 83 ((4 * (dt 79 10)) + 1).toNat = (u2 dt 79 20 0) 83 ((4 * (dt 79 10)) + 1).toNat := hF471 83 (by decide) _
          have y477 : dt469 83 ((4 * (dt 79 10)) + 2).toNat = (u2 dt 79 20 0) 83 ((4 * (dt 79 10)) + 2).toNat := hF471 83 (by decide) _
          have y478 : dt469 83 ((4 * (dt 79 10)) + 3).toNat = (u2 dt 79 20 0) 83 ((4 * (dt 79 10)) + 3).toNat := hF471 83 (by decide) _
          have r479 : 0 ≤ dt469 79 10 ∧ dt469 79 10 ≤ 24 := InvC_get hI470 79 10 rfl rfl
          refine go_to (k := 9) (pc' := 86) (L' := [some (.inr (.inr (some 79))), some (.inl 0)]) (st' := [.inl 8, .inl (4 * (dt469 79 10)), .inr (.inr (some 83))]) (w' := (SH, dt469)) (fun _ => rfl) ?_
          have hI480 : InvC (u2 dt469 83 ((4 * (dt469 79 10)).toNat) 8) := InvC_u2 hI470 (lo := -2147483648) (hi := 2147483647) rfl rfl rfl (by omega) (by omega)
          have hF481 : Fr [79, 83, 84] dt (u2 dt469 83 ((4 * (dt469 79 10)).toNat) 8) := Fr_u2 hF472 (by decide)
          have w482 : (u2 dt469 83 ((4 * (dt469 79 10)).toNat) 8) 79 2 = dt469 79 2 := rfl
          have w483 : (u2 dt469 83 ((4 * (dt469 79 10)).toNat) 8) 79 9 = dt469 79 9 := rfl
          have w484 : (u2 dt469 83 ((4 * (dt469 79 10)).toNat) 8) 79 10 = dt469 79 10 := rfl
          have w485 : (u2 dt469 83 ((4 * (dt469 79 10)).toNat) 8) 79 11 = dt469 79 11 := rfl
          have w486 : (u2 dt469 83 ((4 * (dt469 79 10)).toNat) 8) 79 12 = dt469 79 12 := rfl
          have w487 : (u2 dt469 83 ((4 * (dt469 79 10)).toNat) 8) 79 13 = dt469 79 13 := rfl
          have w488 : (u2 dt469 83 ((4 * (dt469 79 10)).toNat) 8) 79 14 = dt469 79 14 := rfl
          have w489 : (u2 dt469 83 ((4 * (dt469 79 10)).toNat) 8) 79 15 = dt469 79 15 := rfl
          have w490 : (u2 dt469 83 ((4 * (dt469 79 10)).toNat) 8) 79 16 = dt469 79 16 := rfl
          have w491 : (u2 dt469 83 ((4 * (dt469 79 10)).toNat) 8) 79 20 = dt469 79 20 := rfl
          have E84492 : (u2 dt469 83 ((4 * (dt469 79 10)).toNat) 8) 84 = dt 84 := (funext fun _ => u2_ne (by omega)).trans E84473
          have ex494 : ((4 * (dt 79 10))).toNat = (4 * (dt469 79 10)).toNat := by omega
          have BL493 : ∀ j : Nat, (j : Int) < 4 * dt 79 10 → (u2 dt469 83 ((4 * (dt469 79 10)).toNat) 8) 83 j = dt 83 j := fun j hj => (u2_ne (by omega)).trans (BL474 j hj)
          have y495 : (u2 dt469 83 ((4 * (dt469 79 10)).toNat) 8) 83 ((4 * (dt 79 10))).toNat = 8 := by rw [ex494]; exact u2_eq
          have y496 : (u2 dt469 83 ((4 * (dt469 79 10)).toNat) 8) 83 ((4 * (dt 79 10)) + 1).toNat = dt469 83 ((4 * (dt 79 10)) + 1).toNat := u2_ne (by omega)
          have y497 : (u2 dt469 83 ((4 * (dt469 79 10)).toNat) 8) 83 ((4 * (dt 79 10)) + 2).toNat = dt469 83 ((4 * (dt 79 10)) + 2).toNat := u2_ne (by omega)
          have y498 : (u2 dt469 83 ((4 * (dt469 79 10)).toNat) 8) 83 ((4 * (dt 79 10)) + 3).toNat = dt469 83 ((4 * (dt 79 10)) + 3).toNat := u2_ne (by omega)
          refine go_smp (L' := [some (.inr (.inr (some 79))), some (.inl 0)]) (st' := []) (w' := (SH, (u2 dt469 83 ((4 * (dt469 79 10)).toNat) 8))) rfl rfl (s_iast (n := 64) rfl ⟨by omega, by omega⟩ ⟨by omega, by omega⟩) ?_
          have r499 : 0 ≤ dt469 79 11 ∧ dt469 79 11 ≤ 510 := InvC_get hI470 79 11 rfl rfl
          refine go_to (k := 12) (pc' := 119) (L' := [some (.inr (.inr (some 79))), some (.inl 0)]) (st' := [.inl (dt469 79 11), .inl ((4 * (dt469 79 10)) + 1), .inr (.inr (some 83))]) (w' := (SH, (u2 dt469 83 ((4 * (dt469 79 10)).toNat) 8))) (fun _ => rfl) ?_
          have hI500 : InvC (u2 (u2 dt469 83 ((4 * (dt469 79 10)).toNat) 8) 83 (((4 * (dt469 79 10)) + 1).toNat) (dt469 79 11)) := InvC_u2 hI480 (lo := -2147483648) (hi := 2147483647) rfl rfl rfl (by omega) (by omega)
          have hF501 : Fr [79, 83, 84] dt (u2 (u2 dt469 83 ((4 * (dt469 79 10)).toNat) 8) 83 (((4 * (dt469 79 10)) + 1).toNat) (dt469 79 11)) := Fr_u2 hF481 (by decide)
          have w502 : (u2 (u2 dt469 83 ((4 * (dt469 79 10)).toNat) 8) 83 (((4 * (dt469 79 10)) + 1).toNat) (dt469 79 11)) 79 2 = (u2 dt469 83 ((4 * (dt469 79 10)).toNat) 8) 79 2 := rfl
          have w503 : (u2 (u2 dt469 83 ((4 * (dt469 79 10)).toNat) 8) 83 (((4 * (dt469 79 10)) + 1).toNat) (dt469 79 11)) 79 9 = (u2 dt469 83 ((4 * (dt469 79 10)).toNat) 8) 79 9 := rfl
          have w504 : (u2 (u2 dt469 83 ((4 * (dt469 79 10)).toNat) 8) 83 (((4 * (dt469 79 10)) + 1).toNat) (dt469 79 11)) 79 10 = (u2 dt469 83 ((4 * (dt469 79 10)).toNat) 8) 79 10 := rfl
          have w505 : (u2 (u2 dt469 83 ((4 * (dt469 79 10)).toNat) 8) 83 (((4 * (dt469 79 10)) + 1).toNat) (dt469 79 11)) 79 11 = (u2 dt469 83 ((4 * (dt469 79 10)).toNat) 8) 79 11 := rfl
          have w506 : (u2 (u2 dt469 83 ((4 * (dt469 79 10)).toNat) 8) 83 (((4 * (dt469 79 10)) + 1).toNat) (dt469 79 11)) 79 12 = (u2 dt469 83 ((4 * (dt469 79 10)).toNat) 8) 79 12 := rfl
          have w507 : (u2 (u2 dt469 83 ((4 * (dt469 79 10)).toNat) 8) 83 (((4 * (dt469 79 10)) + 1).toNat) (dt469 79 11)) 79 13 = (u2 dt469 83 ((4 * (dt469 79 10)).toNat) 8) 79 13 := rfl
          have w508 : (u2 (u2 dt469 83 ((4 * (dt469 79 10)).toNat) 8) 83 (((4 * (dt469 79 10)) + 1).toNat) (dt469 79 11)) 79 14 = (u2 dt469 83 ((4 * (dt469 79 10)).toNat) 8) 79 14 := rfl
          have w509 : (u2 (u2 dt469 83 ((4 * (dt469 79 10)).toNat) 8) 83 (((4 * (dt469 79 10)) + 1).toNat) (dt469 79 11)) 79 15 = (u2 dt469 83 ((4 * (dt469 79 10)).toNat) 8) 79 15 := rfl
          have w510 : (u2 (u2 dt469 83 ((4 * (dt469 79 10)).toNat) 8) 83 (((4 * (dt469 79 10)) + 1).toNat) (dt469 79 11)) 79 16 = (u2 dt469 83 ((4 * (dt469 79 10)).toNat) 8) 79 16 := rfl
          have w511 : (u2 (u2 dt469 83 ((4 * (dt469 79 10)).toNat) 8) 83 (((4 * (dt469 79 10)) + 1).toNat) (dt469 79 11)) 79 20 = (u2 dt469 83 ((4 * (dt469 79 10)).toNat) 8) 79 20 := rfl
          have E84512 : (u2 (u2 dt469 83 ((4 * (dt469 79 10)).toNat) 8) 83 (((4 * (dt469 79 10)) + 1).toNat) (dt469 79 11)) 84 = dt 84 := (funext fun _ => u2_ne (by omega)).trans E84492
          have ex514 : ((4 * (dt 79 10)) + 1).toNat = ((4 * (dt469 79 10)) + 1).toNat := by omega
          have BL513 : ∀ j : Nat, (j : Int) < 4 * dt 79 10 → (u2 (u2 dt469 83 ((4 * (dt469 79 10)).toNat) 8) 83 (((4 * (dt469 79 10)) + 1).toNat) (dt469 79 11)) 83 j = dt 83 j := fun j hj => (u2_ne (by omega)).trans (BL493 j hj)
          have y515 : (u2 (u2 dt469 83 ((4 * (dt469 79 10)).toNat) 8) 83 (((4 * (dt469 79 10)) + 1).toNat) (dt469 79 11)) 83 ((4 * (dt 79 10))).toNat = (u2 dt469 83 ((4 * (dt469 79 10)).toNat) 8) 83 ((4 * (dt 79 10))).toNat := u2_ne (by omega)
          have y516 : (u2 (u2 dt469 83 ((4 * (dt469 79 10)).toNat) 8) 83 (((4 * (dt469 79 10)) + 1).toNat) (dt469 79 11)) 83 ((4 * (dt 79 10)) + 1).toNat = dt469 79 11 := by rw [ex514]; exact u2_eq
          have y517 : (u2 (u2 dt469 83 ((4 * (dt469 79 10)).toNat) 8) 83 (((4 * (dt469 79 10)) + 1).toNat) (dt469 79 11)) 83 ((4 * (dt 79 10)) + 2).toNat = (u2 dt469 83 ((4 * (dt469 79 10)).toNat) 8) 83 ((4 * (dt 79 10)) + 2).toNat := u2_ne (by omega)
          have y518 : (u2 (u2 dt469 83 ((4 * (dt469 79 10)).toNat) 8) 83 (((4 * (dt469 79 10)) + 1).toNat) (dt469 79 11)) 83 ((4 * (dt 79 10)) + 3).toNat = (u2 dt469 83 ((4 * (dt469 79 10)).toNat) 8) 83 ((4 * (dt 79 10)) + 3).toNat := u2_ne (by omega)
          refine go_smp (L' := [some (.inr (.inr (some 79))), some (.inl 0)]) (st' := []) (w' := (SH, (u2 (u2 dt469 83 ((4 * (dt469 79 10)).toNat) 8) 83 (((4 * (dt469 79 10)) + 1).toNat) (dt469 79 11)))) rfl rfl (s_iast (n := 64) rfl ⟨by omega, by omega⟩ ⟨by omega, by omega⟩) ?_
          refine go_to (k := 1) (pc' := 121) (L' := [some (.inr (.inr (some 79))), some (.inl 0)]) (st' := [.inr (.inr (some 79))]) (w' := (SH, (u2 (u2 dt469 83 ((4 * (dt469 79 10)).toNat) 8) 83 (((4 * (dt469 79 10)) + 1).toNat) (dt469 79 11)))) (fun _ => rfl) ?_
          refine go_call (Q' := _) rfl rfl rfl rfl rfl (sp_X6_sumUp L xs sio (d + 27) (u2 (u2 dt469 83 ((4 * (dt469 79 10)).toNat) 8) 83 (((4 * (dt469 79 10)) + 1).toNat) (dt469 79 11)) hI500   (by first | trivial | omega) (by first | trivial | omega)) ?_
          rintro _ _ ⟨dt520, rfl, hI521, hF522, h519⟩
          refine ⟨rfl, ?_⟩
          have hF523 : Fr [79, 83, 84] dt dt520 := Fr_tr hF501 hF522 (by decide)
          rcases h519 with ⟨rfl, h519⟩ | ⟨rfl, h519⟩
          · skip
            obtain ⟨h519_0, h519_1, h519_2, h519_3⟩ := h519
            have BL524 : ∀ j : Nat, (j : Int) < 4 * dt 79 10 → dt520 83 j = dt 83 j := fun j hj => (hF522 83 (by decide) j).trans (BL513 j hj)
            have y525 : dt520 83 ((4 * (dt 79 10))).toNat = (u2 (u2 dt469 83 ((4 * (dt469 79 10)).toNat) 8) 83 (((4 * (dt469 79 10)) + 1).toNat) (dt469 79 11)) 83 ((4 * (dt 79 10))).toNat := hF522 83 (by decide) _
            have y526 : dt520 83 ((4 * (dt 79 10)) + 1).toNat = (u2 (u2 dt469 83 ((4 * (dt469 79 10)).toNat) 8) 83 (((4 * (dt469 79 10)) + 1).toNat) (dt469 79 11)) 83 ((4 * (dt 79 10)) + 1).toNat := hF522 83 (by decide) _
            have y527 : dt520 83 ((4 * (dt 79 10)) + 2).toNat = (u2 (u2 dt469 83 ((4 * (dt469 79 10)).toNat) 8) 83 (((4 * (dt469 79 10)) + 1).toNat) (dt469 79 11)) 83 ((4 * (dt 79 10)) + 2).toNat := hF522 83 (by decide) _
            have y528 : dt520 83 ((4 * (dt 79 10)) + 3).toNat = (u2 (u2 dt469 83 ((4 * (dt469 79 10)).toNat) 8) 83 (((4 * (dt469 79 10)) + 1).toNat) (dt469 79 11)) 83 ((4 * (dt 79 10)) + 3).toNat := hF522 83 (by decide) _
            refine go_ret (k := 3) (r := some (.inl 0)) (w1 := (SH, dt520)) (fun _ => rfl) ?_
            exact ⟨dt520, rfl, hI521, hF523, (Or.inl ⟨rfl, ⟨by first | trivial | omega, by first | trivial | omega, by first | trivial | omega⟩⟩)⟩
          · skip
            obtain ⟨h519_0, h519_1, h519_2, h519_3, h519_4, h519_5, h519_6, h519_7, h519_8, h519_9, h519_10⟩ := h519
            have BL529 : ∀ j : Nat, (j : Int) < 4 * dt 79 10 → dt520 83 j = dt 83 j := fun j hj => (hF522 83 (by decide) j).trans (BL513 j hj)
            have y530 : dt520 83 ((4 * (dt 79 10))).toNat = (u2 (u2 dt469 83 ((4 * (dt469 79 10)).toNat) 8) 83 (((4 * (dt469 79 10)) + 1).toNat) (dt469 79 11)) 83 ((4 * (dt 79 10))).toNat := hF522 83 (by decide) _
            have y531 : dt520 83 ((4 * (dt 79 10)) + 1).toNat = (u2 (u2 dt469 83 ((4 * (dt469 79 10)).toNat) 8) 83 (((4 * (dt469 79 10)) + 1).toNat) (dt469 79 11)) 83 ((4 * (dt 79 10)) + 1).toNat := hF522 83 (by decide) _
            have y532 : dt520 83 ((4 * (dt 79 10)) + 2).toNat = (u2 (u2 dt469 83 ((4 * (dt469 79 10)).toNat) 8) 83 (((4 * (dt469 79 10)) + 1).toNat) (dt469 79 11)) 83 ((4 * (dt 79 10)) + 2).toNat := hF522 83 (by decide) _
            have y533 : dt520 83 ((4 * (dt 79 10)) + 3).toNat = (u2 (u2 dt469 83 ((4 * (dt469 79 10)).toNat) 8) 83 (((4 * (dt469 79 10)) + 1).toNat) (dt469 79 11)) 83 ((4 * (dt 79 10)) + 3).toNat := hF522 83 (by decide) _
            have r534 : 0 ≤ dt520 79 10 ∧ dt520 79 10 ≤ 24 := InvC_get hI521 79 10 rfl rfl
            have r535 : 0 ≤ dt520 79 11 ∧ dt520 79 11 ≤ 510 := InvC_get hI521 79 11 rfl rfl
            refine go_to (k := 11) (pc' := 145) (L' := [some (.inr (.inr (some 79))), some (.inl 0)]) (st' := [.inl (dt520 79 11), .inl ((4 * (dt520 79 10)) + 2), .inr (.inr (some 83))]) (w' := (SH, dt520)) (fun _ => rfl) ?_
            have hI536 : InvC (u2 dt520 83 (((4 * (dt520 79 10)) + 2).toNat) (dt520 79 11)) := InvC_u2 hI521 (lo := -2147483648) (hi := 2147483647) rfl rfl rfl (by omega) (by omega)
            have hF537 : Fr [79, 83, 84] dt (u2 dt520 83 (((4 * (dt520 79 10)) + 2).toNat) (dt520 79 11)) := Fr_u2 hF523 (by decide)
            have w538 : (u2 dt520 83 (((4 * (dt520 79 10)) + 2).toNat) (dt520 79 11)) 79 2 = dt520 79 2 := rfl
            have w539 : (u2 dt520 83 (((4 * (dt520 79 10)) + 2).toNat) (dt520 79 11)) 79 9 = dt520 79 9 := rfl
            have w540 : (u2 dt520 83 (((4 * (dt520 79 10)) + 2).toNat) (dt520 79 11)) 79 10 = dt520 79 10 := rfl
            have w541 : (u2 dt520 83 (((4 * (dt520 79 10)) + 2).toNat) (dt520 79 11)) 79 11 = dt520 79 11 := rfl
            have w542 : (u2 dt520 83 (((4 * (dt520 79 10)) + 2).toNat) (dt520 79 11)) 79 12 = dt520 79 12 := rfl
            have w543 : (u2 dt520 83 (((4 * (dt520 79 10)) + 2).toNat) (dt520 79 11)) 79 13 = dt520 79 13 := rfl
            have w544 : (u2 dt520 83 (((4 * (dt520 79 10)) + 2).toNat) (dt520 79 11)) 79 14 = dt520 79 14 := rfl
            have w545 : (u2 dt520 83 (((4 * (dt520 79 10)) + 2).toNat) (dt520 79 11)) 79 15 = dt520 79 15 := rfl
            have w546 : (u2 dt520 83 (((4 * (dt520 79 10)) + 2).toNat) (dt520 79 11)) 79 16 = dt520 79 16 := rfl
            have w547 : (u2 dt520 83 (((4 * (dt520 79 10)) + 2).toNat) (dt520 79 11)) 79 20 = dt520 79 20 := rfl
            have E84548 : (u2 dt520 83 (((4 * (dt520 79 10)) + 2).toNat) (dt520 79 11)) 84 = dt520 84 := funext fun _ => u2_ne (by omega)
            have ex550 : ((4 * (dt 79 10)) + 2).toNat = ((4 * (dt520 79 10)) + 2).toNat := by omega
            have BL549 : ∀ j : Nat, (j : Int) < 4 * dt 79 10 → (u2 dt520 83 (((4 * (dt520 79 10)) + 2).toNat) (dt520 79 11)) 83 j = dt 83 j := fun j hj => (u2_ne (by omega)).trans (BL529 j hj)
            have y551 : (u2 dt520 83 (((4 * (dt520 79 10)) + 2).toNat) (dt520 79 11)) 83 ((4 * (dt 79 10))).toNat = dt520 83 ((4 * (dt 79 10))).toNat := u2_ne (by omega)
            have y552 : (u2 dt520 83 (((4 * (dt520 79 10)) + 2).toNat) (dt520 79 11)) 83 ((4 * (dt 79 10)) + 1).toNat = dt520 83 ((4 * (dt 79 10)) + 1).toNat := u2_ne (by omega)
            have y553 : (u2 dt520 83 (((4 * (dt520 79 10)) + 2).toNat) (dt520 79 11)) 83 ((4 * (dt 79 10)) + 2).toNat = dt520 79 11 := by rw [ex550]; exact u2_eq
            have y554 : (u2 dt520 83 (((4 * (dt520 79 10)) + 2).toNat) (dt520 79 11)) 83 ((4 * (dt 79 10)) + 3).toNat = dt520 83 ((4 * (dt 79 10)) + 3).toNat := u2_ne (by omega)
            refine go_smp (L' := [some (.inr (.inr (some 79))), some (.inl 0)]) (st' := []) (w' := (SH, (u2 dt520 83 (((4 * (dt520 79 10)) + 2).toNat) (dt520 79 11)))) rfl rfl (s_iast (n := 64) rfl ⟨by omega, by omega⟩ ⟨by omega, by omega⟩) ?_
            have r555 : (-2147483648) ≤ dt520 79 14 ∧ dt520 79 14 ≤ 2147483647 := InvC_get hI521 79 14 rfl rfl
            refine go_if (k := 4) (p1 := 167) (p2 := 154) (L' := [some (.inr (.inr (some 79))), some (.inl 0)]) (st' := []) (w' := (SH, (u2 dt520 83 (((4 * (dt520 79 10)) + 2).toNat) (dt520 79 11)))) (fun _ => rfl) (c_ne (a := dt520 79 14) (b := 3) ⟨by omega, by omega⟩ ⟨by omega, by omega⟩) (fun c556 => ?_) (fun c556 => ?_)
            · skip
              refine go_to (k := 10) (pc' := 183) (L' := [some (.inr (.inr (some 79))), some (.inl 0)]) (st' := [.inl (dt520 79 11), .inl ((4 * (dt520 79 10)) + 3), .inr (.inr (some 83))]) (w' := (SH, (u2 dt520 83 (((4 * (dt520 79 10)) + 2).toNat) (dt520 79 11)))) (fun _ => rfl) ?_
              have hI557 : InvC (u2 (u2 dt520 83 (((4 * (dt520 79 10)) + 2).toNat) (dt520 79 11)) 83 (((4 * (dt520 79 10)) + 3).toNat) (dt520 79 11)) := InvC_u2 hI536 (lo := -2147483648) (hi := 2147483647) rfl rfl rfl (by omega) (by omega)
              have hF558 : Fr [79, 83, 84] dt (u2 (u2 dt520 83 (((4 * (dt520 79 10)) + 2).toNat) (dt520 79 11)) 83 (((4 * (dt520 79 10)) + 3).toNat) (dt520 79 11)) := Fr_u2 hF537 (by decide)
              have w559 : (u2 (u2 dt520 83 (((4 * (dt520 79 10)) + 2).toNat) (dt520 79 11)) 83 (((4 * (dt520 79 10)) + 3).toNat) (dt520 79 11)) 79 2 = (u2 dt520 83 (((4 * (dt520 79 10)) + 2).toNat) (dt520 79 11)) 79 2 := rfl
              have w560 : (u2 (u2 dt520 83 (((4 * (dt520 79 10)) + 2).toNat) (dt520 79 11)) 83 (((4 * (dt520 79 10)) + 3).toNat) (dt520 79 11)) 79 9 = (u2 dt520 83 (((4 * (dt520 79 10)) + 2).toNat) (dt520 79 11)) 79 9 := rfl
              have w561 : (u2 (u2 dt520 83 (((4 * (dt520 79 10)) + 2).toNat) (dt520 79 11)) 83 (((4 * (dt520 79 10)) + 3).toNat) (dt520 79 11)) 79 10 = (u2 dt520 83 (((4 * (dt520 79 10)) + 2).toNat) (dt520 79 11)) 79 10 := rfl
              have w562 : (u2 (u2 dt520 83 (((4 * (dt520 79 10)) + 2).toNat) (dt520 79 11)) 83 (((4 * (dt520 79 10)) + 3).toNat) (dt520 79 11)) 79 11 = (u2 dt520 83 (((4 * (dt520 79 10)) + 2).toNat) (dt520 79 11)) 79 11 := rfl
              have w563 : (u2 (u2 dt520 83 (((4 * (dt520 79 10)) + 2).toNat) (dt520 79 11)) 83 (((4 * (dt520 79 10)) + 3).toNat) (dt520 79 11)) 79 12 = (u2 dt520 83 (((4 * (dt520 79 10)) + 2).toNat) (dt520 79 11)) 79 12 := rfl
              have w564 : (u2 (u2 dt520 83 (((4 * (dt520 79 10)) + 2).toNat) (dt520 79 11)) 83 (((4 * (dt520 79 10)) + 3).toNat) (dt520 79 11)) 79 13 = (u2 dt520 83 (((4 * (dt520 79 10)) + 2).toNat) (dt520 79 11)) 79 13 := rfl
              have w565 : (u2 (u2 dt520 83 (((4 * (dt520 79 10)) + 2).toNat) (dt520 79 11)) 83 (((4 * (dt520 79 10)) + 3).toNat) (dt520 79 11)) 79 14 = (u2 dt520 83 (((4 * (dt520 79 10)) + 2).toNat) (dt520 79 11)) 79 14 := rfl
              have w566 : (u2 (u2 dt520 83 (((4 * (dt520 79 10)) + 2).toNat) (dt520 79 11)) 83 (((4 * (dt520 79 10)) + 3).toNat) (dt520 79 11)) 79 15 = (u2 dt520 83 (((4 * (dt520 79 10)) + 2).toNat) (dt520 79 11)) 79 15 := rfl
              have w567 : (u2 (u2 dt520 83 (((4 * (dt520 79 10)) + 2).toNat) (dt520 79 11)) 83 (((4 * (dt520 79 10)) + 3).toNat) (dt520 79 11)) 79 16 = (u2 dt520 83 (((4 * (dt520 79 10)) + 2).toNat) (dt520 79 11)) 79 16 := rfl
              have w568 : (u2 (u2 dt520 83 (((4 * (dt520 79 10)) + 2).toNat) (dt520 79 11)) 83 (((4 * (dt520 79 10)) + 3).toNat) (dt520 79 11)) 79 20 = (u2 dt520 83 (((4 * (dt520 79 10)) + 2).toNat) (dt520 79 11)) 79 20 := rfl
              have E84569 : (u2 (u2 dt520 83 (((4 * (dt520 79 10)) + 2).toNat) (dt520 79 11)) 83 (((4 * (dt520 79 10)) + 3).toNat) (dt520 79 11)) 84 = dt520 84 := (funext fun _ => u2_ne (by omega)).trans E84548
              have ex571 : ((4 * (dt 79 10)) + 3).toNat = ((4 * (dt520 79 10)) + 3).toNat := by omega
              have BL570 : ∀ j : Nat, (j : Int) < 4 * dt 79 10 → (u2 (u2 dt520 83 (((4 * (dt520 79 10)) + 2).toNat) (dt520 79 11)) 83 (((4 * (dt520 79 10)) + 3).toNat) (dt520 79 11)) 83 j = dt 83 j := fun j hj => (u2_ne (by omega)).trans (BL549 j hj)
              have y572 : (u2 (u2 dt520 83 (((4 * (dt520 79 10)) + 2).toNat) (dt520 79 11)) 83 (((4 * (dt520 79 10)) + 3).toNat) (dt520 79 11)) 83 ((4 * (dt 79 10))).toNat = (u2 dt520 83 (((4 * (dt520 79 10)) + 2).toNat) (dt520 79 11)) 83 ((4 * (dt 79 10))).toNat := u2_ne (by omega)
              have y573 : (u2 (u2 dt520 83 (((4 * (dt520 79 10)) + 2).toNat) (dt520 79 11)) 83 (((4 * (dt520 79 10)) + 3).toNat) (dt520 79 11)) 83 ((4 * (dt 79 10)) + 1).toNat = (u2 dt520 83 (((4 * (dt520 79 10)) + 2).toNat) (dt520 79 11)) 83 ((4 * (dt 79 10)) + 1).toNat := u2_ne (by omega)
              have y574 : (u2 (u2 dt520 83 (((4 * (dt520 79 10)) + 2).toNat) (dt520 79 11)) 83 (((4 * (dt520 79 10)) + 3).toNat) (dt520 79 11)) 83 ((4 * (dt 79 10)) + 2).toNat = (u2 dt520 83 (((4 * (dt520 79 10)) + 2).toNat) (dt520 79 11)) 83 ((4 * (dt 79 10)) + 2).toNat := u2_ne (by omega)
              have y575 : (u2 (u2 dt520 83 (((4 * (dt520 79 10)) + 2).toNat) (dt520 79 11)) 83 (((4 * (dt520 79 10)) + 3).toNat) (dt520 79 11)) 83 ((4 * (dt 79 10)) + 3).toNat = dt520 79 11 := by rw [ex571]; exact u2_eq
              refine go_smp (L' := [some (.inr (.inr (some 79))), some (.inl 0)]) (st' := []) (w' := (SH, (u2 (u2 dt520 83 (((4 * (dt520 79 10)) + 2).toNat) (dt520 79 11)) 83 (((4 * (dt520 79 10)) + 3).toNat) (dt520 79 11)))) rfl rfl (s_iast (n := 64) rfl ⟨by omega, by omega⟩ ⟨by omega, by omega⟩) ?_
              refine go_to (k := 2) (pc' := 188) (L' := [some (.inr (.inr (some 79))), some (.inl 0)]) (st' := [.inl 159, .inr (.inr (some 79))]) (w' := (SH, (u2 (u2 dt520 83 (((4 * (dt520 79 10)) + 2).toNat) (dt520 79 11)) 83 (((4 * (dt520 79 10)) + 3).toNat) (dt520 79 11)))) (fun _ => rfl) ?_
              refine go_call (Q' := _) rfl rfl rfl rfl rfl (sp_X6_need0 L xs sio (d + 29) (u2 (u2 dt520 83 (((4 * (dt520 79 10)) + 2).toNat) (dt520 79 11)) 83 (((4 * (dt520 79 10)) + 3).toNat) (dt520 79 11)) hI557  159 ⟨by omega, by omega⟩ (by first | trivial | omega)) ?_
              rintro _ _ ⟨dt577, rfl, hI578, hF579, h576⟩
              refine ⟨rfl, ?_⟩
              have hF580 : Fr [79, 83, 84] dt dt577 := Fr_tr hF558 hF579 (by decide)
              have E84581 : dt577 84 = dt520 84 := (funext (hF579 84 (by decide))).trans E84569
              rcases h576 with ⟨rfl, h576⟩ | ⟨rfl, h576⟩
              · skip
                obtain ⟨h576_0, h576_1, h576_2, h576_3⟩ := h576
                have BL582 : ∀ j : Nat, (j : Int) < 4 * dt 79 10 → dt577 83 j = dt 83 j := fun j hj => (hF579 83 (by decide) j).trans (BL570 j hj)
                have y583 : dt577 83 ((4 * (dt 79 10))).toNat = (u2 (u2 dt520 83 (((4 * (dt520 79 10)) + 2).toNat) (dt520 79 11)) 83 (((4 * (dt520 79 10)) + 3).toNat) (dt520 79 11)) 83 ((4 * (dt 79 10))).toNat := hF579 83 (by decide) _
                have y584 : dt577 83 ((4 * (dt 79 10)) + 1).toNat = (u2 (u2 dt520 83 (((4 * (dt520 79 10)) + 2).toNat) (dt520 79 11)) 83 (((4 * (dt520 79 10)) + 3).toNat) (dt520 79 11)) 83 ((4 * (dt 79 10)) + 1).toNat := hF579 83 (by decide) _
                have y585 : dt577 83 ((4 * (dt 79 10)) + 2).toNat = (u2 (u2 dt520 83 (((4 * (dt520 79 10)) + 2).toNat) (dt520 79 11)) 83 (((4 * (dt520 79 10)) + 3).toNat) (dt520 79 11)) 83 ((4 * (dt 79 10)) + 2).toNat := hF579 83 (by decide) _
                have y586 : dt577 83 ((4 * (dt 79 10)) + 3).toNat = (u2 (u2 dt520 83 (((4 * (dt520 79 10)) + 2).toNat) (dt520 79 11)) 83 (((4 * (dt520 79 10)) + 3).toNat) (dt520 79 11)) 83 ((4 * (dt 79 10)) + 3).toNat := hF579 83 (by decide) _
                refine go_ret (k := 1) (r := some (.inl 0)) (w1 := (SH, dt577)) (fun _ => rfl) ?_
                exact ⟨dt577, rfl, hI578, hF580, (Or.inl ⟨rfl, ⟨by first | trivial | omega, by first | trivial | omega, by first | trivial | omega⟩⟩)⟩
              · skip
                obtain ⟨h576_0, h576_1, h576_2, h576_3, h576_4, h576_5, h576_6, h576_7, h576_8⟩ := h576
                have BL587 : ∀ j : Nat, (j : Int) < 4 * dt 79 10 → dt577 83 j = dt 83 j := fun j hj => (hF579 83 (by decide) j).trans (BL570 j hj)
                have y588 : dt577 83 ((4 * (dt 79 10))).toNat = (u2 (u2 dt520 83 (((4 * (dt520 79 10)) + 2).toNat) (dt520 79 11)) 83 (((4 * (dt520 79 10)) + 3).toNat) (dt520 79 11)) 83 ((4 * (dt 79 10))).toNat := hF579 83 (by decide) _
                have y589 : dt577 83 ((4 * (dt 79 10)) + 1).toNat = (u2 (u2 dt520 83 (((4 * (dt520 79 10)) + 2).toNat) (dt520 79 11)) 83 (((4 * (dt520 79 10)) + 3).toNat) (dt520 79 11)) 83 ((4 * (dt 79 10)) + 1).toNat := hF579 83 (by decide) _
                have y590 : dt577 83 ((4 * (dt 79 10)) + 2).toNat = (u2 (u2 dt520 83 (((4 * (dt520 79 10)) + 2).toNat) (dt520 79 11)) 83 (((4 * (dt520 79 10)) + 3).toNat) (dt520 79 11)) 83 ((4 * (dt 79 10)) + 2).toNat := hF579 83 (by decide) _
                have y591 : dt577 83 ((4 * (dt 79 10)) + 3).toNat = (u2 (u2 dt520 83 (((4 * (dt520 79 10)) + 2).toNat) (dt520 79 11)) 83 (((4 * (dt520 79 10)) + 3).toNat) (dt520 79 11)) 83 ((4 * (dt 79 10)) + 3).toNat := hF579 83 (by decide) _
                refine go_ret (k := 1) (r := some (.inl 1)) (w1 := (SH, dt577)) (fun _ => rfl) ?_
                exact ⟨dt577, rfl, hI578, hF580, (Or.inr ⟨rfl, ⟨by first | trivial | omega, by exact BL587, by exact ⟨by omega, PS_fin h519_4 (by first | exact AGR_e (by assumption) | exact AGR_e rfl | exact AGR_4 (by assumption) hI (by first | assumption | rfl) (by omega)) (by omega) (by omega), fun _ => by first | omega | exact PS_fin hI (by first | exact AGR_e (by assumption) | exact AGR_e rfl) (by omega) (by omega)⟩, by first | exact AGR_4 (by assumption) h519_5 (by first | assumption | rfl) (by omega) | exact AGR_5 (by assumption) hI (by first | assumption | rfl) h519_5 (by first | assumption | rfl) (by omega) (by omega), by first | trivial | omega, by first | trivial | omega, by first | trivial | omega, by first | trivial | omega, by exact (InvC_get (by assumption) 79 15 rfl rfl).2, by first | trivial | omega, by first | trivial | omega, by first | trivial | omega, by first | trivial | omega⟩⟩)⟩
            · skip
              refine go_to (k := 1) (pc' := 155) (L' := [some (.inr (.inr (some 79))), some (.inl 0)]) (st' := [.inr (.inr (some 79))]) (w' := (SH, (u2 dt520 83 (((4 * (dt520 79 10)) + 2).toNat) (dt520 79 11)))) (fun _ => rfl) ?_
              refine go_call (Q' := _) rfl rfl rfl rfl rfl (sp_X6_next0 L xs sio (d + 30) (u2 dt520 83 (((4 * (dt520 79 10)) + 2).toNat) (dt520 79 11)) hI536   (by first | trivial | omega)) ?_
              rintro _ _ ⟨dt593, rfl, hI594, hF595, h592⟩
              refine ⟨rfl, ?_⟩
              have hF596 : Fr [79, 83, 84] dt dt593 := Fr_tr hF537 hF595 (by decide)
              have E84597 : dt593 84 = dt520 84 := (funext (hF595 84 (by decide))).trans E84548
              rcases h592 with ⟨rfl, h592⟩
              obtain ⟨h592_0, h592_1, h592_2, h592_3, h592_4, h592_5, h592_6, h592_7, h592_8⟩ := h592
              have BL598 : ∀ j : Nat, (j : Int) < 4 * dt 79 10 → dt593 83 j = dt 83 j := fun j hj => (hF595 83 (by decide) j).trans (BL549 j hj)
              have y599 : dt593 83 ((4 * (dt 79 10))).toNat = (u2 dt520 83 (((4 * (dt520 79 10)) + 2).toNat) (dt520 79 11)) 83 ((4 * (dt 79 10))).toNat := hF595 83 (by decide) _
              have y600 : dt593 83 ((4 * (dt 79 10)) + 1).toNat = (u2 dt520 83 (((4 * (dt520 79 10)) + 2).toNat) (dt520 79 11)) 83 ((4 * (dt 79 10)) + 1).toNat := hF595 83 (by decide) _
              have y601 : dt593 83 ((4 * (dt 79 10)) + 2).toNat = (u2 dt520 83 (((4 * (dt520 79 10)) + 2).toNat) (dt520 79 11)) 83 ((4 * (dt 79 10)) + 2).toNat := hF595 83 (by decide) _
              have y602 : dt593 83 ((4 * (dt 79 10)) + 3).toNat = (u2 dt520 83 (((4 * (dt520 79 10)) + 2).toNat) (dt520 79 11)) 83 ((4 * (dt 79 10)) + 3).toNat := hF595 83 (by decide) _
              refine go_to (k := 1) (pc' := 159) (L' := [some (.inr (.inr (some 79))), some (.inl 0)]) (st' := [.inr (.inr (some 79))]) (w' := (SH, dt593)) (fun _ => rfl) ?_
              refine go_call (Q' := _) rfl rfl rfl rfl rfl (sp_X6_any_0 L xs sio (d + 0) dt593 hI594   (by first | trivial | omega) (by first | trivial | omega) (by first | trivial | omega)) ?_
              rintro _ _ ⟨dt604, rfl, hI605, hF606, h603⟩
              refine ⟨rfl, ?_⟩
              have hF607 : Fr [79, 83, 84] dt dt604 := Fr_tr hF596 hF606 (by decide)
              rcases h603 with ⟨rfl, h603⟩ | ⟨rfl, h603⟩
              · skip
                obtain ⟨h603_0, h603_1, h603_2, h603_3⟩ := h603
                have BL608 : ∀ j : Nat, (j : Int) < 4 * dt 79 10 → dt604 83 j = dt 83 j := fun j hj => (hF606 83 (by decide) j).trans (BL598 j hj)
                have y609 : dt604 83 ((4 * (dt 79 10))).toNat = dt593 83 ((4 * (dt 79 10))).toNat := hF606 83 (by decide) _
                have y610 : dt604 83 ((4 * (dt 79 10)) + 1).toNat = dt593 83 ((4 * (dt 79 10)) + 1).toNat := hF606 83 (by decide) _
                have y611 : dt604 83 ((4 * (dt 79 10)) + 2).toNat = dt593 83 ((4 * (dt 79 10)) + 2).toNat := hF606 83 (by decide) _
                have y612 : dt604 83 ((4 * (dt 79 10)) + 3).toNat = dt593 83 ((4 * (dt 79 10)) + 3).toNat := hF606 83 (by decide) _
                refine go_ret (k := 3) (r := some (.inl 0)) (w1 := (SH, dt604)) (fun _ => rfl) ?_
                exact ⟨dt604, rfl, hI605, hF607, (Or.inl ⟨rfl, ⟨by first | trivial | omega, by first | trivial | omega, by first | trivial | omega⟩⟩)⟩
              · skip
                obtain ⟨h603_0, h603_1, h603_2, h603_3, h603_4, h603_5, h603_6, h603_7, h603_8, h603_9, h603_10⟩ := h603
                have BL613 : ∀ j : Nat, (j : Int) < 4 * dt 79 10 → dt604 83 j = dt 83 j := fun j hj => (hF606 83 (by decide) j).trans (BL598 j hj)
                have y614 : dt604 83 ((4 * (dt 79 10))).toNat = dt593 83 ((4 * (dt 79 10))).toNat := hF606 83 (by decide) _
                have y615 : dt604 83 ((4 * (dt 79 10)) + 1).toNat = dt593 83 ((4 * (dt 79 10)) + 1).toNat := hF606 83 (by decide) _
                have y616 : dt604 83 ((4 * (dt 79 10)) + 2).toNat = dt593 83 ((4 * (dt 79 10)) + 2).toNat := hF606 83 (by decide) _
                have y617 : dt604 83 ((4 * (dt 79 10)) + 3).toNat = dt593 83 ((4 * (dt 79 10)) + 3).toNat := hF606 83 (by decide) _
                have r618 : 0 ≤ dt604 79 10 ∧ dt604 79 10 ≤ 24 := InvC_get hI605 79 10 rfl rfl
                have r619 : 0 ≤ dt604 79 11 ∧ dt604 79 11 ≤ 510 := InvC_get hI605 79 11 rfl rfl
                refine go_to (k := 11) (pc' := 183) (L' := [some (.inr (.inr (some 79))), some (.inl 0)]) (st' := [.inl (dt604 79 11), .inl ((4 * (dt604 79 10)) + 3), .inr (.inr (some 83))]) (w' := (SH, dt604)) (fun _ => rfl) ?_
                have hI620 : InvC (u2 dt604 83 (((4 * (dt604 79 10)) + 3).toNat) (dt604 79 11)) := InvC_u2 hI605 (lo := -2147483648) (hi := 2147483647) rfl rfl rfl (by omega) (by omega)
                have hF621 : Fr [79, 83, 84] dt (u2 dt604 83 (((4 * (dt604 79 10)) + 3).toNat) (dt604 79 11)) := Fr_u2 hF607 (by decide)
                have w622 : (u2 dt604 83 (((4 * (dt604 79 10)) + 3).toNat) (dt604 79 11)) 79 2 = dt604 79 2 := rfl
                have w623 : (u2 dt604 83 (((4 * (dt604 79 10)) + 3).toNat) (dt604 79 11)) 79 9 = dt604 79 9 := rfl
                have w624 : (u2 dt604 83 (((4 * (dt604 79 10)) + 3).toNat) (dt604 79 11)) 79 10 = dt604 79 10 := rfl
                have w625 : (u2 dt604 83 (((4 * (dt604 79 10)) + 3).toNat) (dt604 79 11)) 79 11 = dt604 79 11 := rfl
                have w626 : (u2 dt604 83 (((4 * (dt604 79 10)) + 3).toNat) (dt604 79 11)) 79 12 = dt604 79 12 := rfl
                have w627 : (u2 dt604 83 (((4 * (dt604 79 10)) + 3).toNat) (dt604 79 11)) 79 13 = dt604 79 13 := rfl
                have w628 : (u2 dt604 83 (((4 * (dt604 79 10)) + 3).toNat) (dt604 79 11)) 79 14 = dt604 79 14 := rfl
                have w629 : (u2 dt604 83 (((4 * (dt604 79 10)) + 3).toNat) (dt604 79 11)) 79 15 = dt604 79 15 := rfl
                have w630 : (u2 dt604 83 (((4 * (dt604 79 10)) + 3).toNat) (dt604 79 11)) 79 16 = dt604 79 16 := rfl
                have w631 : (u2 dt604 83 (((4 * (dt604 79 10)) + 3).toNat) (dt604 79 11)) 79 20 = dt604 79 20 := rfl
                have E84632 : (u2 dt604 83 (((4 * (dt604 79 10)) + 3).toNat) (dt604 79 11)) 84 = dt604 84 := funext fun _ => u2_ne (by omega)
                have ex634 : ((4 * (dt 79 10)) + 3).toNat = ((4 * (dt604 79 10)) + 3).toNat := by omega
                have BL633 : ∀ j : Nat, (j : Int) < 4 * dt 79 10 → (u2 dt604 83 (((4 * (dt604 79 10)) + 3).toNat) (dt604 79 11)) 83 j = dt 83 j := fun j hj => (u2_ne (by omega)).trans (BL613 j hj)
                have y635 : (u2 dt604 83 (((4 * (dt604 79 10)) + 3).toNat) (dt604 79 11)) 83 ((4 * (dt 79 10))).toNat = dt604 83 ((4 * (dt 79 10))).toNat := u2_ne (by omega)
                have y636 : (u2 dt604 83 (((4 * (dt604 79 10)) + 3).toNat) (dt604 79 11)) 83 ((4 * (dt 79 10)) + 1).toNat = dt604 83 ((4 * (dt 79 10)) + 1).toNat := u2_ne (by omega)
                have y637 : (u2 dt604 83 (((4 * (dt604 79 10)) + 3).toNat) (dt604 79 11)) 83 ((4 * (dt 79 10)) + 2).toNat = dt604 83 ((4 * (dt 79 10)) + 2).toNat := u2_ne (by omega)
                have y638 : (u2 dt604 83 (((4 * (dt604 79 10)) + 3).toNat) (dt604 79 11)) 83 ((4 * (dt 79 10)) + 3).toNat = dt604 79 11 := by rw [ex634]; exact u2_eq
                refine go_smp (L' := [some (.inr (.inr (some 79))), some (.inl 0)]) (st' := []) (w' := (SH, (u2 dt604 83 (((4 * (dt604 79 10)) + 3).toNat) (dt604 79 11)))) rfl rfl (s_iast (n := 64) rfl ⟨by omega, by omega⟩ ⟨by omega, by omega⟩) ?_
                refine go_to (k := 2) (pc' := 188) (L' := [some (.inr (.inr (some 79))), some (.inl 0)]) (st' := [.inl 159, .inr (.inr (some 79))]) (w' := (SH, (u2 dt604 83 (((4 * (dt604 79 10)) + 3).toNat) (dt604 79 11)))) (fun _ => rfl) ?_
                refine go_call (Q' := _) rfl rfl rfl rfl rfl (sp_X6_need0 L xs sio (d + 29) (u2 dt604 83 (((4 * (dt604 79 10)) + 3).toNat) (dt604 79 11)) hI620  159 ⟨by omega, by omega⟩ (by first | trivial | omega)) ?_
                rintro _ _ ⟨dt640, rfl, hI641, hF642, h639⟩
                refine ⟨rfl, ?_⟩
                have hF643 : Fr [79, 83, 84] dt dt640 := Fr_tr hF621 hF642 (by decide)
                have E84644 : dt640 84 = dt604 84 := (funext (hF642 84 (by decide))).trans E84632
                rcases h639 with ⟨rfl, h639⟩ | ⟨rfl, h639⟩
                · skip
                  obtain ⟨h639_0, h639_1, h639_2, h639_3⟩ := h639
                  have BL645 : ∀ j : Nat, (j : Int) < 4 * dt 79 10 → dt640 83 j = dt 83 j := fun j hj => (hF642 83 (by decide) j).trans (BL633 j hj)
                  have y646 : dt640 83 ((4 * (dt 79 10))).toNat = (u2 dt604 83 (((4 * (dt604 79 10)) + 3).toNat) (dt604 79 11)) 83 ((4 * (dt 79 10))).toNat := hF642 83 (by decide) _
                  have y647 : dt640 83 ((4 * (dt 79 10)) + 1).toNat = (u2 dt604 83 (((4 * (dt604 79 10)) + 3).toNat) (dt604 79 11)) 83 ((4 * (dt 79 10)) + 1).toNat := hF642 83 (by decide) _
                  have y648 : dt640 83 ((4 * (dt 79 10)) + 2).toNat = (u2 dt604 83 (((4 * (dt604 79 10)) + 3).toNat) (dt604 79 11)) 83 ((4 * (dt 79 10)) + 2).toNat := hF642 83 (by decide) _
                  have y649 : dt640 83 ((4 * (dt 79 10)) + 3).toNat = (u2 dt604 83 (((4 * (dt604 79 10)) + 3).toNat) (dt604 79 11)) 83 ((4 * (dt 79 10)) + 3).toNat := hF642 83 (by decide) _
                  refine go_ret (k := 1) (r := some (.inl 0)) (w1 := (SH, dt640)) (fun _ => rfl) ?_
                  exact ⟨dt640, rfl, hI641, hF643, (Or.inl ⟨rfl, ⟨by first | trivial | omega, by first | trivial | omega, by first | trivial | omega⟩⟩)⟩
                · skip
                  obtain ⟨h639_0, h639_1, h639_2, h639_3, h639_4, h639_5, h639_6, h639_7, h639_8⟩ := h639
                  have BL650 : ∀ j : Nat, (j : Int) < 4 * dt 79 10 → dt640 83 j = dt 83 j := fun j hj => (hF642 83 (by decide) j).trans (BL633 j hj)
                  have y651 : dt640 83 ((4 * (dt 79 10))).toNat = (u2 dt604 83 (((4 * (dt604 79 10)) + 3).toNat) (dt604 79 11)) 83 ((4 * (dt 79 10))).toNat := hF642 83 (by decide) _
                  have y652 : dt640 83 ((4 * (dt 79 10)) + 1).toNat = (u2 dt604 83 (((4 * (dt604 79 10)) + 3).toNat) (dt604 79 11)) 83 ((4 * (dt 79 10)) + 1).toNat := hF642 83 (by decide) _
                  have y653 : dt640 83 ((4 * (dt 79 10)) + 2).toNat = (u2 dt604 83 (((4 * (dt604 79 10)) + 3).toNat) (dt604 79 11)) 83 ((4 * (dt 79 10)) + 2).toNat := hF642 83 (by decide) _
                  have y654 : dt640 83 ((4 * (dt 79 10)) + 3).toNat = (u2 dt604 83 (((4 * (dt604 79 10)) + 3).toNat) (dt604 79 11)) 83 ((4 * (dt 79 10)) + 3).toNat := hF642 83 (by decide) _
                  refine go_ret (k := 1) (r := some (.inl 1)) (w1 := (SH, dt640)) (fun _ => rfl) ?_
                  exact ⟨dt640, rfl, hI641, hF643, (Or.inr ⟨rfl, ⟨by first | trivial | omega, by exact BL650, by exact ⟨by omega, PS_fin h519_4 (by first | exact AGR_e (by assumption) | exact AGR_e rfl | exact AGR_4 (by assumption) h603_5 (by first | assumption | rfl) (by omega)) (by omega) (by omega), fun _ => by first | omega | exact PS_fin h603_4 (by first | exact AGR_e (by assumption) | exact AGR_e rfl) (by omega) (by omega)⟩, by first | exact AGR_4 (by assumption) h519_5 (by first | assumption | rfl) (by omega) | exact AGR_5 (by assumption) h603_5 (by first | assumption | rfl) h519_5 (by first | assumption | rfl) (by omega) (by omega), by first | trivial | omega, by first | trivial | omega, by first | trivial | omega, by first | trivial | omega, by exact (InvC_get (by assumption) 79 15 rfl rfl).2, by first | trivial | omega, by first | trivial | omega, by first | trivial | omega, by first | trivial | omega⟩⟩)⟩
        · exfalso; omega
      · skip
        refine go_to (k := 2) (pc' := 35) (L' := [some (.inr (.inr (some 79))), none]) (st' := [.inl 3, .inr (.inr (some 79))]) (w' := (SH, dt)) (fun _ => rfl) ?_
        refine go_call (Q' := _) rfl rfl rfl rfl rfl (sp_X6_bad L xs sio (d + 36) dt hI  3 ⟨by omega, by omega⟩ ) ?_
        rintro _ _ ⟨dt656, rfl, hI657, hF658, h655⟩
        refine ⟨rfl, ?_⟩
        have hF659 : Fr [79, 83, 84] dt dt656 := Fr_tr hF hF658 (by decide)
        have E84660 : dt656 84 = dt 84 := funext (hF658 84 (by decide))
        rcases h655 with ⟨rfl, h655⟩
        obtain ⟨h655_0, h655_1, h655_2, h655_3, h655_4, h655_5⟩ := h655
        have BL661 : ∀ j : Nat, (j : Int) < 4 * dt 79 10 → dt656 83 j = dt 83 j := fun j hj => (hF658 83 (by decide) j).trans ((fun _ _ => rfl) j hj)
        have y662 : dt656 83 ((4 * (dt 79 10))).toNat = dt 83 ((4 * (dt 79 10))).toNat := hF658 83 (by decide) _
        have y663 : dt656 83 ((4 * (dt 79 10)) + 1).toNat = dt 83 ((4 * (dt 79 10)) + 1).toNat := hF658 83 (by decide) _
        have y664 : dt656 83 ((4 * (dt 79 10)) + 2).toNat = dt 83 ((4 * (dt 79 10)) + 2).toNat := hF658 83 (by decide) _
        have y665 : dt656 83 ((4 * (dt 79 10)) + 3).toNat = dt 83 ((4 * (dt 79 10)) + 3).toNat := hF658 83 (by decide) _
        refine go_ret (k := 1) (r := some (.inl 0)) (w1 := (SH, dt656)) (fun _ => rfl) ?_
        exact ⟨dt656, rfl, hI657, hF659, (Or.inl ⟨rfl, ⟨by first | trivial | omega, by first | trivial | omega, by first | trivial | omega⟩⟩)⟩
    · skip
      refine go_to (k := 2) (pc' := 20) (L' := [some (.inr (.inr (some 79))), none]) (st' := [.inl 1, .inr (.inr (some 79))]) (w' := (SH, dt)) (fun _ => rfl) ?_
      refine go_call (Q' := _) rfl rfl rfl rfl rfl (sp_X6_bad L xs sio (d + 36) dt hI  1 ⟨by omega, by omega⟩ ) ?_
      rintro _ _ ⟨dt667, rfl, hI668, hF669, h666⟩
      refine ⟨rfl, ?_⟩
      have hF670 : Fr [79, 83, 84] dt dt667 := Fr_tr hF hF669 (by decide)
      have E84671 : dt667 84 = dt 84 := funext (hF669 84 (by decide))
      rcases h666 with ⟨rfl, h666⟩
      obtain ⟨h666_0, h666_1, h666_2, h666_3, h666_4, h666_5⟩ := h666
      have BL672 : ∀ j : Nat, (j : Int) < 4 * dt 79 10 → dt667 83 j = dt 83 j := fun j hj => (hF669 83 (by decide) j).trans ((fun _ _ => rfl) j hj)
      have y673 : dt667 83 ((4 * (dt 79 10))).toNat = dt 83 ((4 * (dt 79 10))).toNat := hF669 83 (by decide) _
      have y674 : dt667 83 ((4 * (dt 79 10)) + 1).toNat = dt 83 ((4 * (dt 79 10)) + 1).toNat := hF669 83 (by decide) _
      have y675 : dt667 83 ((4 * (dt 79 10)) + 2).toNat = dt 83 ((4 * (dt 79 10)) + 2).toNat := hF669 83 (by decide) _
      have y676 : dt667 83 ((4 * (dt 79 10)) + 3).toNat = dt 83 ((4 * (dt 79 10)) + 3).toNat := hF669 83 (by decide) _
      refine go_ret (k := 1) (r := some (.inl 0)) (w1 := (SH, dt667)) (fun _ => rfl) ?_
      exact ⟨dt667, rfl, hI668, hF670, (Or.inl ⟨rfl, ⟨by first | trivial | omega, by first | trivial | omega, by first | trivial | omega⟩⟩)⟩
set_option maxRecDepth 20000 in
theorem sp_X6_keeps_k0 (L : Nat) (xs : Nat → Int32) (sio : Option Nat) (d : Nat) (dt : Nat → Nat → Int) (hI : InvC dt) (hM : MW (dt 80))  (p1 : Int) (h_p1 : 0 ≤ p1 ∧ p1 ≤ 7) (h_p0 : dt 79 9 = 0) (h_p1 : 0 ≤ dt 79 10 ∧ dt 79 10 ≤ 24) (h_p2 : ARW (dt 82) (dt 79 10)) : GO (am_XX L xs sio) (d) 175 0 [some (.inr (.inr (some 79))), some (.inl p1), none] [] (SH, dt) (fun r w2 => ∃ dt2 : Nat → Nat → Int, w2 = (SH, dt2) ∧ InvC dt2 ∧ Fr [80] dt dt2 ∧ ((r = none ∧ (MW (dt2 80)) ∧ (dt2 80 0 = dt 80 0) ∧ (dt2 80 1 = dt 80 1) ∧ (dt2 80 2 = dt 80 2) ∧ (dt2 80 3 = dt 80 3) ∧ (dt2 80 4 = dt 80 4) ∧ (dt2 80 5 = dt 80 5)))) := by
  have hF : Fr [80] dt dt := Fr_refl
  have r1 : 0 ≤ dt 79 9 ∧ dt 79 9 ≤ 1 := InvC_get hI 79 9 rfl rfl
  have r2 : 0 ≤ dt 79 10 ∧ dt 79 10 ≤ 24 := InvC_get hI 79 10 rfl rfl
  refine go_if (k := 3) (p1 := 59) (p2 := 7) (L' := [some (.inr (.inr (some 79))), some (.inl p1), none]) (st' := []) (w' := (SH, dt)) (fun _ => rfl) (z_ne (a := dt 79 9) ⟨by omega, by omega⟩) (fun c3 => ?_) (fun c3 => ?_)
  · skip
    exfalso; omega
  · skip
    refine go_to (k := 7) (pc' := 19) (L' := [some (.inr (.inr (some 79))), some (.inl p1), none]) (st' := [.inl (dt 79 10), .inl (6 + p1), .inr (.inr (some 80))]) (w' := (SH, dt)) (fun _ => rfl) ?_
    have hI4 : InvC (u2 dt 80 ((6 + p1).toNat) (dt 79 10)) := InvC_u2 hI (lo := -2147483648) (hi := 2147483647) rfl rfl rfl (by omega) (by omega)
    have hF5 : Fr [80] dt (u2 dt 80 ((6 + p1).toNat) (dt 79 10)) := Fr_u2 hF (by decide)
    refine go_smp (L' := [some (.inr (.inr (some 79))), some (.inl p1), none]) (st' := []) (w' := (SH, (u2 dt 80 ((6 + p1).toNat) (dt 79 10)))) rfl rfl (s_iast (n := 7460) rfl ⟨by omega, by omega⟩ ⟨by omega, by omega⟩) ?_
    refine go_to (k := 2) (pc' := 22) (L' := [some (.inr (.inr (some 79))), some (.inl p1), some (.inl 0)]) (st' := []) (w' := (SH, (u2 dt 80 ((6 + p1).toNat) (dt 79 10)))) (fun _ => rfl) ?_
    have loop17 : ∀ (k_ : Nat) (l22_2 : Int) (dt11 : Nat → Nat → Int) (hI12 : InvC dt11) (hF13 : Fr [80] dt dt11) (i14 : 0 ≤ l22_2 ∧ l22_2 ≤ 120) (i15 : l22_2 ≤ 5 * dt 79 10) (i16 : ∀ j : Nat, dt11 80 j = K0 (dt 80) (dt 82) p1 (dt 79 10) l22_2 j), (121 - l22_2).toNat < k_ → GO (am_XX L xs sio) (d) 175 22 [some (.inr (.inr (some 79))), some (.inl p1), some (.inl l22_2)] [] (SH, dt11) (fun r w2 => ∃ dt2 : Nat → Nat → Int, w2 = (SH, dt2) ∧ InvC dt2 ∧ Fr [80] dt dt2 ∧ ((r = none ∧ (MW (dt2 80)) ∧ (dt2 80 0 = dt 80 0) ∧ (dt2 80 1 = dt 80 1) ∧ (dt2 80 2 = dt 80 2) ∧ (dt2 80 3 = dt 80 3) ∧ (dt2 80 4 = dt 80 4) ∧ (dt2 80 5 = dt 80 5)))) := by
      intro k_
      induction k_ with
      | zero => intro l22_2 dt11 hI12 hF13 i14 i15 i16 hm; exact absurd hm (Nat.not_lt_zero _)
      | succ k_ ih_loop17 =>
        intro l22_2 dt11 hI12 hF13 i14 i15 i16 hm
        refine go_to (k := 3) (pc' := 25) (L' := [some (.inr (.inr (some 79))), some (.inl p1), some (.inl l22_2)]) (st' := [.inr (.inr (some 79)), .inl 5, .inl l22_2]) (w' := (SH, dt11)) (fun _ => rfl) ?_
        refine go_smp (L' := [some (.inr (.inr (some 79))), some (.inl p1), some (.inl l22_2)]) (st' := [.inl (dt 79 10), .inl 5, .inl l22_2]) (w' := (SH, dt11)) rfl rfl (s_gfc rfl rfl rfl (hF13 79 (by decide) 10)) ?_
        refine go_if (k := 2) (p1 := 58) (p2 := 32) (L' := [some (.inr (.inr (some 79))), some (.inl p1), some (.inl l22_2)]) (st' := []) (w' := (SH, dt11)) (fun _ => rfl) (c_ge (a := l22_2) (b := 5 * (dt 79 10)) ⟨by omega, by omega⟩ ⟨by omega, by omega⟩) (fun c18 => ?_) (fun c18 => ?_)
        · skip
          refine go_ret (k := 1) (r := none) (w1 := (SH, dt11)) (fun _ => rfl) ?_
          exact ⟨dt11, rfl, hI12, hF13, ⟨rfl, ⟨by exact MW_K0 hM (by assumption) (by omega) (by omega) (by assumption) (by omega), by exact K0_lo (by assumption) (by omega) 0 (by decide), by exact K0_lo (by assumption) (by omega) 1 (by decide), by exact K0_lo (by assumption) (by omega) 2 (by decide), by exact K0_lo (by assumption) (by omega) 3 (by decide), by exact K0_lo (by assumption) (by omega) 4 (by decide), by exact K0_lo (by assumption) (by omega) 5 (by decide)⟩⟩⟩
        · skip
          refine go_to (k := 12) (pc' := 50) (L' := [some (.inr (.inr (some 79))), some (.inl p1), some (.inl l22_2)]) (st' := [.inl l22_2, .inr (.inr (some 82)), .inl ((14 + (120 * p1)) + l22_2), .inr (.inr (some 80))]) (w' := (SH, dt11)) (fun _ => rfl) ?_
          have r19 : (-2147483648) ≤ dt 82 (l22_2).toNat ∧ dt 82 (l22_2).toNat ≤ 2147483647 := InvC_get hI 82 (l22_2).toNat rfl rfl
          refine go_smp (L' := [some (.inr (.inr (some 79))), some (.inl p1), some (.inl l22_2)]) (st' := [.inl (dt 82 (l22_2).toNat), .inl ((14 + (120 * p1)) + l22_2), .inr (.inr (some 80))]) (w' := (SH, dt11)) rfl rfl (s_ev (s_iald (n := 120) (f := dt11 82) rfl ⟨by omega, by omega⟩) (hF13 82 (by decide) _)) ?_
          have hI20 : InvC (u2 dt11 80 (((14 + (120 * p1)) + l22_2).toNat) (dt 82 (l22_2).toNat)) := InvC_u2 hI12 (lo := -2147483648) (hi := 2147483647) rfl rfl rfl (by omega) (by omega)
          have hF21 : Fr [80] dt (u2 dt11 80 (((14 + (120 * p1)) + l22_2).toNat) (dt 82 (l22_2).toNat)) := Fr_u2 hF13 (by decide)
          refine go_smp (L' := [some (.inr (.inr (some 79))), some (.inl p1), some (.inl l22_2)]) (st' := []) (w' := (SH, (u2 dt11 80 (((14 + (120 * p1)) + l22_2).toNat) (dt 82 (l22_2).toNat)))) rfl rfl (s_iast (n := 7460) rfl ⟨by omega, by omega⟩ ⟨by omega, by omega⟩) ?_
          refine go_to (k := 2) (pc' := 22) (L' := [some (.inr (.inr (some 79))), some (.inl p1), some (.inl (l22_2 + 1))]) (st' := []) (w' := (SH, (u2 dt11 80 (((14 + (120 * p1)) + l22_2).toNat) (dt 82 (l22_2).toNat)))) (fun _ => rfl) ?_
          exact GO.le (ih_loop17 (l22_2 + 1) (u2 dt11 80 (((14 + (120 * p1)) + l22_2).toNat) (dt 82 (l22_2).toNat)) hI20 hF21 (by first | omega | exact K0_0 (by omega) | exact K0_s (by assumption) (by omega) (by omega) rfl) (by first | omega | exact K0_0 (by omega) | exact K0_s (by assumption) (by omega) (by omega) rfl) (by first | omega | exact K0_0 (by omega) | exact K0_s (by assumption) (by omega) (by omega) rfl) (by omega)) ⟨.inl rfl, .inl rfl, .inl rfl, trivial⟩
    exact GO.le (loop17 _ 0 (u2 dt 80 ((6 + p1).toNat) (dt 79 10)) hI4 hF5 (by first | omega | exact K0_0 (by omega) | exact K0_s (by assumption) (by omega) (by omega) rfl) (by first | omega | exact K0_0 (by omega) | exact K0_s (by assumption) (by omega) (by omega) rfl) (by first | omega | exact K0_0 (by omega) | exact K0_s (by assumption) (by omega) (by omega) rfl) (Nat.lt_succ_self _)) ⟨.inl rfl, .inl rfl, .inl rfl, trivial⟩
set_option maxRecDepth 20000 in
theorem sp_X6_keeps_k1 (L : Nat) (xs : Nat → Int32) (sio : Option Nat) (d : Nat) (dt : Nat → Nat → Int) (hI : InvC dt) (hM : MW (dt 80))  (p1 : Int) (h_p1 : 0 ≤ p1 ∧ p1 ≤ 3) (h_p0 : dt 79 9 = 1) (h_p1 : 0 ≤ dt 79 10 ∧ dt 79 10 ≤ 16) (h_p2 : 0 ≤ dt 79 11 ∧ dt 79 11 ≤ 510) (h_p3 : LRW (dt 83) (dt 84) (dt 79 10) (dt 79 11)) : GO (am_XX L xs sio) (d) 175 0 [some (.inr (.inr (some 79))), some (.inl p1), none] [] (SH, dt) (fun r w2 => ∃ dt2 : Nat → Nat → Int, w2 = (SH, dt2) ∧ InvC dt2 ∧ Fr [80] dt dt2 ∧ ((r = none ∧ (MW (dt2 80)) ∧ (dt2 80 0 = dt 80 0) ∧ (dt2 80 1 = dt 80 1) ∧ (dt2 80 2 = dt 80 2) ∧ (dt2 80 3 = dt 80 3) ∧ (dt2 80 4 = dt 80 4) ∧ (dt2 80 5 = dt 80 5)))) := by
  have hF : Fr [80] dt dt := Fr_refl
  have r1 : 0 ≤ dt 79 9 ∧ dt 79 9 ≤ 1 := InvC_get hI 79 9 rfl rfl
  have r2 : 0 ≤ dt 79 10 ∧ dt 79 10 ≤ 24 := InvC_get hI 79 10 rfl rfl
  have r3 : 0 ≤ dt 79 11 ∧ dt 79 11 ≤ 510 := InvC_get hI 79 11 rfl rfl
  refine go_if (k := 3) (p1 := 59) (p2 := 7) (L' := [some (.inr (.inr (some 79))), some (.inl p1), none]) (st' := []) (w' := (SH, dt)) (fun _ => rfl) (z_ne (a := dt 79 9) ⟨by omega, by omega⟩) (fun c4 => ?_) (fun c4 => ?_)
  · skip
    refine go_to (k := 7) (pc' := 72) (L' := [some (.inr (.inr (some 79))), some (.inl p1), none]) (st' := [.inl (dt 79 10), .inl (974 + p1), .inr (.inr (some 80))]) (w' := (SH, dt)) (fun _ => rfl) ?_
    have hI5 : InvC (u2 dt 80 ((974 + p1).toNat) (dt 79 10)) := InvC_u2 hI (lo := -2147483648) (hi := 2147483647) rfl rfl rfl (by omega) (by omega)
    have hF6 : Fr [80] dt (u2 dt 80 ((974 + p1).toNat) (dt 79 10)) := Fr_u2 hF (by decide)
    refine go_smp (L' := [some (.inr (.inr (some 79))), some (.inl p1), none]) (st' := []) (w' := (SH, (u2 dt 80 ((974 + p1).toNat) (dt 79 10)))) rfl rfl (s_iast (n := 7460) rfl ⟨by omega, by omega⟩ ⟨by omega, by omega⟩) ?_
    refine go_to (k := 2) (pc' := 75) (L' := [some (.inr (.inr (some 79))), some (.inl p1), some (.inl 0)]) (st' := []) (w' := (SH, (u2 dt 80 ((974 + p1).toNat) (dt 79 10)))) (fun _ => rfl) ?_
    have loop27 : ∀ (k_ : Nat) (l75_2 : Int) (dt21 : Nat → Nat → Int) (hI22 : InvC dt21) (hF23 : Fr [80] dt dt21) (i24 : 0 ≤ l75_2 ∧ l75_2 ≤ 16) (i25 : l75_2 ≤ dt 79 10) (i26 : ∀ j : Nat, dt21 80 j = K1 (dt 80) (dt 83) p1 (dt 79 10) l75_2 j), (17 - l75_2).toNat < k_ → GO (am_XX L xs sio) (d) 175 75 [some (.inr (.inr (some 79))), some (.inl p1), some (.inl l75_2)] [] (SH, dt21) (fun r w2 => ∃ dt2 : Nat → Nat → Int, w2 = (SH, dt2) ∧ InvC dt2 ∧ Fr [80] dt dt2 ∧ ((r = none ∧ (MW (dt2 80)) ∧ (dt2 80 0 = dt 80 0) ∧ (dt2 80 1 = dt 80 1) ∧ (dt2 80 2 = dt 80 2) ∧ (dt2 80 3 = dt 80 3) ∧ (dt2 80 4 = dt 80 4) ∧ (dt2 80 5 = dt 80 5)))) := by
      intro k_
      induction k_ with
      | zero => intro l75_2 dt21 hI22 hF23 i24 i25 i26 hm; exact absurd hm (Nat.not_lt_zero _)
      | succ k_ ih_loop27 =>
        intro l75_2 dt21 hI22 hF23 i24 i25 i26 hm
        refine go_to (k := 2) (pc' := 77) (L' := [some (.inr (.inr (some 79))), some (.inl p1), some (.inl l75_2)]) (st' := [.inr (.inr (some 79)), .inl l75_2]) (w' := (SH, dt21)) (fun _ => rfl) ?_
        refine go_smp (L' := [some (.inr (.inr (some 79))), some (.inl p1), some (.inl l75_2)]) (st' := [.inl (dt 79 10), .inl l75_2]) (w' := (SH, dt21)) rfl rfl (s_gfc rfl rfl rfl (hF23 79 (by decide) 10)) ?_
        refine go_if (k := 1) (p1 := 187) (p2 := 83) (L' := [some (.inr (.inr (some 79))), some (.inl p1), some (.inl l75_2)]) (st' := []) (w' := (SH, dt21)) (fun _ => rfl) (c_ge (a := l75_2) (b := dt 79 10) ⟨by omega, by omega⟩ ⟨by omega, by omega⟩) (fun c28 => ?_) (fun c28 => ?_)
        · skip
          refine go_to (k := 2) (pc' := 189) (L' := [some (.inr (.inr (some 79))), some (.inl p1), some (.inl 0)]) (st' := []) (w' := (SH, dt21)) (fun _ => rfl) ?_
          have loop40 : ∀ (k_ : Nat) (l189_2 : Int) (dt34 : Nat → Nat → Int) (hI35 : InvC dt34) (hF36 : Fr [80] dt dt34) (i37 : 0 ≤ l189_2 ∧ l189_2 ≤ 1020) (i38 : l189_2 ≤ 2 * dt 79 11) (i39 : ∀ j : Nat, dt34 80 j = K2 (K1 (dt 80) (dt 83) p1 (dt 79 10) l75_2) (dt 84) p1 l189_2 j), (1021 - l189_2).toNat < k_ → GO (am_XX L xs sio) (d) 175 189 [some (.inr (.inr (some 79))), some (.inl p1), some (.inl l189_2)] [] (SH, dt34) (fun r w2 => ∃ dt2 : Nat → Nat → Int, w2 = (SH, dt2) ∧ InvC dt2 ∧ Fr [80] dt dt2 ∧ ((r = none ∧ (MW (dt2 80)) ∧ (dt2 80 0 = dt 80 0) ∧ (dt2 80 1 = dt 80 1) ∧ (dt2 80 2 = dt 80 2) ∧ (dt2 80 3 = dt 80 3) ∧ (dt2 80 4 = dt 80 4) ∧ (dt2 80 5 = dt 80 5)))) := by
            intro k_
            induction k_ with
            | zero => intro l189_2 dt34 hI35 hF36 i37 i38 i39 hm; exact absurd hm (Nat.not_lt_zero _)
            | succ k_ ih_loop40 =>
              intro l189_2 dt34 hI35 hF36 i37 i38 i39 hm
              refine go_to (k := 3) (pc' := 192) (L' := [some (.inr (.inr (some 79))), some (.inl p1), some (.inl l189_2)]) (st' := [.inr (.inr (some 79)), .inl 2, .inl l189_2]) (w' := (SH, dt34)) (fun _ => rfl) ?_
              refine go_smp (L' := [some (.inr (.inr (some 79))), some (.inl p1), some (.inl l189_2)]) (st' := [.inl (dt 79 11), .inl 2, .inl l189_2]) (w' := (SH, dt34)) rfl rfl (s_gfc rfl rfl rfl (hF36 79 (by decide) 11)) ?_
              refine go_if (k := 2) (p1 := 227) (p2 := 199) (L' := [some (.inr (.inr (some 79))), some (.inl p1), some (.inl l189_2)]) (st' := []) (w' := (SH, dt34)) (fun _ => rfl) (c_ge (a := l189_2) (b := 2 * (dt 79 11)) ⟨by omega, by omega⟩ ⟨by omega, by omega⟩) (fun c41 => ?_) (fun c41 => ?_)
              · skip
                refine go_ret (k := 1) (r := none) (w1 := (SH, dt34)) (fun _ => rfl) ?_
                exact ⟨dt34, rfl, hI35, hF36, ⟨rfl, ⟨by exact MW_K1 hM (by assumption) (by omega) (by omega) (by omega) (by assumption) (by omega) (by omega), by exact K2_lo (by assumption) (by omega) 0 (by decide), by exact K2_lo (by assumption) (by omega) 1 (by decide), by exact K2_lo (by assumption) (by omega) 2 (by decide), by exact K2_lo (by assumption) (by omega) 3 (by decide), by exact K2_lo (by assumption) (by omega) 4 (by decide), by exact K2_lo (by assumption) (by omega) 5 (by decide)⟩⟩⟩
              · skip
                refine go_to (k := 12) (pc' := 219) (L' := [some (.inr (.inr (some 79))), some (.inl p1), some (.inl l189_2)]) (st' := [.inl l189_2, .inr (.inr (some 84)), .inl ((1240 + (1020 * p1)) + l189_2), .inr (.inr (some 80))]) (w' := (SH, dt34)) (fun _ => rfl) ?_
                have r42 : (-2147483648) ≤ dt 84 (l189_2).toNat ∧ dt 84 (l189_2).toNat ≤ 2147483647 := InvC_get hI 84 (l189_2).toNat rfl rfl
                refine go_smp (L' := [some (.inr (.inr (some 79))), some (.inl p1), some (.inl l189_2)]) (st' := [.inl (dt 84 (l189_2).toNat), .inl ((1240 + (1020 * p1)) + l189_2), .inr (.inr (some 80))]) (w' := (SH, dt34)) rfl rfl (s_ev (s_iald (n := 1020) (f := dt34 84) rfl ⟨by omega, by omega⟩) (hF36 84 (by decide) _)) ?_
                have hI43 : InvC (u2 dt34 80 (((1240 + (1020 * p1)) + l189_2).toNat) (dt 84 (l189_2).toNat)) := InvC_u2 hI35 (lo := -2147483648) (hi := 2147483647) rfl rfl rfl (by omega) (by omega)
                have hF44 : Fr [80] dt (u2 dt34 80 (((1240 + (1020 * p1)) + l189_2).toNat) (dt 84 (l189_2).toNat)) := Fr_u2 hF36 (by decide)
                refine go_smp (L' := [some (.inr (.inr (some 79))), some (.inl p1), some (.inl l189_2)]) (st' := []) (w' := (SH, (u2 dt34 80 (((1240 + (1020 * p1)) + l189_2).toNat) (dt 84 (l189_2).toNat)))) rfl rfl (s_iast (n := 7460) rfl ⟨by omega, by omega⟩ ⟨by omega, by omega⟩) ?_
                refine go_to (k := 2) (pc' := 189) (L' := [some (.inr (.inr (some 79))), some (.inl p1), some (.inl (l189_2 + 1))]) (st' := []) (w' := (SH, (u2 dt34 80 (((1240 + (1020 * p1)) + l189_2).toNat) (dt 84 (l189_2).toNat)))) (fun _ => rfl) ?_
                exact GO.le (ih_loop40 (l189_2 + 1) (u2 dt34 80 (((1240 + (1020 * p1)) + l189_2).toNat) (dt 84 (l189_2).toNat)) hI43 hF44 (by first | omega | exact K2_0 (by assumption) (by omega) | exact K2_s (by assumption) (by omega) (by omega) rfl) (by first | omega | exact K2_0 (by assumption) (by omega) | exact K2_s (by assumption) (by omega) (by omega) rfl) (by first | omega | exact K2_0 (by assumption) (by omega) | exact K2_s (by assumption) (by omega) (by omega) rfl) (by omega)) ⟨.inl rfl, .inl rfl, .inl rfl, trivial⟩
          exact GO.le (loop40 _ 0 dt21 hI22 hF23 (by first | omega | exact K2_0 (by assumption) (by omega) | exact K2_s (by assumption) (by omega) (by omega) rfl) (by first | omega | exact K2_0 (by assumption) (by omega) | exact K2_s (by assumption) (by omega) (by omega) rfl) (by first | omega | exact K2_0 (by assumption) (by omega) | exact K2_s (by assumption) (by omega) (by omega) rfl) (Nat.lt_succ_self _)) ⟨.inl rfl, .inl rfl, .inl rfl, trivial⟩
        · skip
          refine go_to (k := 14) (pc' := 104) (L' := [some (.inr (.inr (some 79))), some (.inl p1), some (.inl l75_2)]) (st' := [.inl (4 * l75_2), .inr (.inr (some 83)), .inl ((978 + (16 * p1)) + l75_2), .inr (.inr (some 80))]) (w' := (SH, dt21)) (fun _ => rfl) ?_
          have r45 : (-2147483648) ≤ dt 83 ((4 * l75_2).toNat) ∧ dt 83 ((4 * l75_2).toNat) ≤ 2147483647 := InvC_get hI 83 ((4 * l75_2).toNat) rfl rfl
          refine go_smp (L' := [some (.inr (.inr (some 79))), some (.inl p1), some (.inl l75_2)]) (st' := [.inl (dt 83 ((4 * l75_2).toNat)), .inl ((978 + (16 * p1)) + l75_2), .inr (.inr (some 80))]) (w' := (SH, dt21)) rfl rfl (s_ev (s_iald (n := 64) (f := dt21 83) rfl ⟨by omega, by omega⟩) (hF23 83 (by decide) _)) ?_
          have hI46 : InvC (u2 dt21 80 (((978 + (16 * p1)) + l75_2).toNat) (dt 83 ((4 * l75_2).toNat))) := InvC_u2 hI22 (lo := -2147483648) (hi := 2147483647) rfl rfl rfl (by omega) (by omega)
          have hF47 : Fr [80] dt (u2 dt21 80 (((978 + (16 * p1)) + l75_2).toNat) (dt 83 ((4 * l75_2).toNat))) := Fr_u2 hF23 (by decide)
          refine go_smp (L' := [some (.inr (.inr (some 79))), some (.inl p1), some (.inl l75_2)]) (st' := []) (w' := (SH, (u2 dt21 80 (((978 + (16 * p1)) + l75_2).toNat) (dt 83 ((4 * l75_2).toNat))))) rfl rfl (s_iast (n := 7460) rfl ⟨by omega, by omega⟩ ⟨by omega, by omega⟩) ?_
          refine go_to (k := 16) (pc' := 129) (L' := [some (.inr (.inr (some 79))), some (.inl p1), some (.inl l75_2)]) (st' := [.inl ((4 * l75_2) + 1), .inr (.inr (some 83)), .inl ((1042 + (16 * p1)) + l75_2), .inr (.inr (some 80))]) (w' := (SH, (u2 dt21 80 (((978 + (16 * p1)) + l75_2).toNat) (dt 83 ((4 * l75_2).toNat))))) (fun _ => rfl) ?_
          have r48 : (-2147483648) ≤ dt 83 (((4 * l75_2) + 1).toNat) ∧ dt 83 (((4 * l75_2) + 1).toNat) ≤ 2147483647 := InvC_get hI 83 (((4 * l75_2) + 1).toNat) rfl rfl
          refine go_smp (L' := [some (.inr (.inr (some 79))), some (.inl p1), some (.inl l75_2)]) (st' := [.inl (dt 83 (((4 * l75_2) + 1).toNat)), .inl ((1042 + (16 * p1)) + l75_2), .inr (.inr (some 80))]) (w' := (SH, (u2 dt21 80 (((978 + (16 * p1)) + l75_2).toNat) (dt 83 ((4 * l75_2).toNat))))) rfl rfl (s_ev (s_iald (n := 64) (f := (u2 dt21 80 (((978 + (16 * p1)) + l75_2).toNat) (dt 83 ((4 * l75_2).toNat))) 83) rfl ⟨by omega, by omega⟩) (hF47 83 (by decide) _)) ?_
          have hI49 : InvC (u2 (u2 dt21 80 (((978 + (16 * p1)) + l75_2).toNat) (dt 83 ((4 * l75_2).toNat))) 80 (((1042 + (16 * p1)) + l75_2).toNat) (dt 83 (((4 * l75_2) + 1).toNat))) := InvC_u2 hI46 (lo := -2147483648) (hi := 2147483647) rfl rfl rfl (by omega) (by omega)
          have hF50 : Fr [80] dt (u2 (u2 dt21 80 (((978 + (16 * p1)) + l75_2).toNat) (dt 83 ((4 * l75_2).toNat))) 80 (((1042 + (16 * p1)) + l75_2).toNat) (dt 83 (((4 * l75_2) + 1).toNat))) := Fr_u2 hF47 (by decide)
          refine go_smp (L' := [some (.inr (.inr (some 79))), some (.inl p1), some (.inl l75_2)]) (st' := []) (w' := (SH, (u2 (u2 dt21 80 (((978 + (16 * p1)) + l75_2).toNat) (dt 83 ((4 * l75_2).toNat))) 80 (((1042 + (16 * p1)) + l75_2).toNat) (dt 83 (((4 * l75_2) + 1).toNat))))) rfl rfl (s_iast (n := 7460) rfl ⟨by omega, by omega⟩ ⟨by omega, by omega⟩) ?_
          refine go_to (k := 16) (pc' := 154) (L' := [some (.inr (.inr (some 79))), some (.inl p1), some (.inl l75_2)]) (st' := [.inl ((4 * l75_2) + 2), .inr (.inr (some 83)), .inl ((1106 + (16 * p1)) + l75_2), .inr (.inr (some 80))]) (w' := (SH, (u2 (u2 dt21 80 (((978 + (16 * p1)) + l75_2).toNat) (dt 83 ((4 * l75_2).toNat))) 80 (((1042 + (16 * p1)) + l75_2).toNat) (dt 83 (((4 * l75_2) + 1).toNat))))) (fun _ => rfl) ?_
          have r51 : (-2147483648) ≤ dt 83 (((4 * l75_2) + 2).toNat) ∧ dt 83 (((4 * l75_2) + 2).toNat) ≤ 2147483647 := InvC_get hI 83 (((4 * l75_2) + 2).toNat) rfl rfl
          refine go_smp (L' := [some (.inr (.inr (some 79))), some (.inl p1), some (.inl l75_2)]) (st' := [.inl (dt 83 (((4 * l75_2) + 2).toNat)), .inl ((1106 + (16 * p1)) + l75_2), .inr (.inr (some 80))]) (w' := (SH, (u2 (u2 dt21 80 (((978 + (16 * p1)) + l75_2).toNat) (dt 83 ((4 * l75_2).toNat))) 80 (((1042 + (16 * p1)) + l75_2).toNat) (dt 83 (((4 * l75_2) + 1).toNat))))) rfl rfl (s_ev (s_iald (n := 64) (f := (u2 (u2 dt21 80 (((978 + (16 * p1)) + l75_2).toNat) (dt 83 ((4 * l75_2).toNat))) 80 (((1042 + (16 * p1)) + l75_2).toNat) (dt 83 (((4 * l75_2) + 1).toNat))) 83) rfl ⟨by omega, by omega⟩) (hF50 83 (by decide) _)) ?_
          have hI52 : InvC (u2 (u2 (u2 dt21 80 (((978 + (16 * p1)) + l75_2).toNat) (dt 83 ((4 * l75_2).toNat))) 80 (((1042 + (16 * p1)) + l75_2).toNat) (dt 83 (((4 * l75_2) + 1).toNat))) 80 (((1106 + (16 * p1)) + l75_2).toNat) (dt 83 (((4 * l75_2) + 2).toNat))) := InvC_u2 hI49 (lo := -2147483648) (hi := 2147483647) rfl rfl rfl (by omega) (by omega)
          have hF53 : Fr [80] dt (u2 (u2 (u2 dt21 80 (((978 + (16 * p1)) + l75_2).toNat) (dt 83 ((4 * l75_2).toNat))) 80 (((1042 + (16 * p1)) + l75_2).toNat) (dt 83 (((4 * l75_2) + 1).toNat))) 80 (((1106 + (16 * p1)) + l75_2).toNat) (dt 83 (((4 * l75_2) + 2).toNat))) := Fr_u2 hF50 (by decide)
          refine go_smp (L' := [some (.inr (.inr (some 79))), some (.inl p1), some (.inl l75_2)]) (st' := []) (w' := (SH, (u2 (u2 (u2 dt21 80 (((978 + (16 * p1)) + l75_2).toNat) (dt 83 ((4 * l75_2).toNat))) 80 (((1042 + (16 * p1)) + l75_2).toNat) (dt 83 (((4 * l75_2) + 1).toNat))) 80 (((1106 + (16 * p1)) + l75_2).toNat) (dt 83 (((4 * l75_2) + 2).toNat))))) rfl rfl (s_iast (n := 7460) rfl ⟨by omega, by omega⟩ ⟨by omega, by omega⟩) ?_
          refine go_to (k := 16) (pc' := 179) (L' := [some (.inr (.inr (some 79))), some (.inl p1), some (.inl l75_2)]) (st' := [.inl ((4 * l75_2) + 3), .inr (.inr (some 83)), .inl ((1170 + (16 * p1)) + l75_2), .inr (.inr (some 80))]) (w' := (SH, (u2 (u2 (u2 dt21 80 (((978 + (16 * p1)) + l75_2).toNat) (dt 83 ((4 * l75_2).toNat))) 80 (((1042 + (16 * p1)) + l75_2).toNat) (dt 83 (((4 * l75_2) + 1).toNat))) 80 (((1106 + (16 * p1)) + l75_2).toNat) (dt 83 (((4 * l75_2) + 2).toNat))))) (fun _ => rfl) ?_
          have r54 : (-2147483648) ≤ dt 83 (((4 * l75_2) + 3).toNat) ∧ dt 83 (((4 * l75_2) + 3).toNat) ≤ 2147483647 := InvC_get hI 83 (((4 * l75_2) + 3).toNat) rfl rfl
          refine go_smp (L' := [some (.inr (.inr (some 79))), some (.inl p1), some (.inl l75_2)]) (st' := [.inl (dt 83 (((4 * l75_2) + 3).toNat)), .inl ((1170 + (16 * p1)) + l75_2), .inr (.inr (some 80))]) (w' := (SH, (u2 (u2 (u2 dt21 80 (((978 + (16 * p1)) + l75_2).toNat) (dt 83 ((4 * l75_2).toNat))) 80 (((1042 + (16 * p1)) + l75_2).toNat) (dt 83 (((4 * l75_2) + 1).toNat))) 80 (((1106 + (16 * p1)) + l75_2).toNat) (dt 83 (((4 * l75_2) + 2).toNat))))) rfl rfl (s_ev (s_iald (n := 64) (f := (u2 (u2 (u2 dt21 80 (((978 + (16 * p1)) + l75_2).toNat) (dt 83 ((4 * l75_2).toNat))) 80 (((1042 + (16 * p1)) + l75_2).toNat) (dt 83 (((4 * l75_2) + 1).toNat))) 80 (((1106 + (16 * p1)) + l75_2).toNat) (dt 83 (((4 * l75_2) + 2).toNat))) 83) rfl ⟨by omega, by omega⟩) (hF53 83 (by decide) _)) ?_
          have hI55 : InvC (u2 (u2 (u2 (u2 dt21 80 (((978 + (16 * p1)) + l75_2).toNat) (dt 83 ((4 * l75_2).toNat))) 80 (((1042 + (16 * p1)) + l75_2).toNat) (dt 83 (((4 * l75_2) + 1).toNat))) 80 (((1106 + (16 * p1)) + l75_2).toNat) (dt 83 (((4 * l75_2) + 2).toNat))) 80 (((1170 + (16 * p1)) + l75_2).toNat) (dt 83 (((4 * l75_2) + 3).toNat))) := InvC_u2 hI52 (lo := -2147483648) (hi := 2147483647) rfl rfl rfl (by omega) (by omega)
          have hF56 : Fr [80] dt (u2 (u2 (u2 (u2 dt21 80 (((978 + (16 * p1)) + l75_2).toNat) (dt 83 ((4 * l75_2).toNat))) 80 (((1042 + (16 * p1)) + l75_2).toNat) (dt 83 (((4 * l75_2) + 1).toNat))) 80 (((1106 + (16 * p1)) + l75_2).toNat) (dt 83 (((4 * l75_2) + 2).toNat))) 80 (((1170 + (16 * p1)) + l75_2).toNat) (dt 83 (((4 * l75_2) + 3).toNat))) := Fr_u2 hF53 (by decide)
          refine go_smp (L' := [some (.inr (.inr (some 79))), some (.inl p1), some (.inl l75_2)]) (st' := []) (w' := (SH, (u2 (u2 (u2 (u2 dt21 80 (((978 + (16 * p1)) + l75_2).toNat) (dt 83 ((4 * l75_2).toNat))) 80 (((1042 + (16 * p1)) + l75_2).toNat) (dt 83 (((4 * l75_2) + 1).toNat))) 80 (((1106 + (16 * p1)) + l75_2).toNat) (dt 83 (((4 * l75_2) + 2).toNat))) 80 (((1170 + (16 * p1)) + l75_2).toNat) (dt 83 (((4 * l75_2) + 3).toNat))))) rfl rfl (s_iast (n := 7460) rfl ⟨by omega, by omega⟩ ⟨by omega, by omega⟩) ?_
          refine go_to (k := 2) (pc' := 75) (L' := [some (.inr (.inr (some 79))), some (.inl p1), some (.inl (l75_2 + 1))]) (st' := []) (w' := (SH, (u2 (u2 (u2 (u2 dt21 80 (((978 + (16 * p1)) + l75_2).toNat) (dt 83 ((4 * l75_2).toNat))) 80 (((1042 + (16 * p1)) + l75_2).toNat) (dt 83 (((4 * l75_2) + 1).toNat))) 80 (((1106 + (16 * p1)) + l75_2).toNat) (dt 83 (((4 * l75_2) + 2).toNat))) 80 (((1170 + (16 * p1)) + l75_2).toNat) (dt 83 (((4 * l75_2) + 3).toNat))))) (fun _ => rfl) ?_
          exact GO.le (ih_loop27 (l75_2 + 1) (u2 (u2 (u2 (u2 dt21 80 (((978 + (16 * p1)) + l75_2).toNat) (dt 83 ((4 * l75_2).toNat))) 80 (((1042 + (16 * p1)) + l75_2).toNat) (dt 83 (((4 * l75_2) + 1).toNat))) 80 (((1106 + (16 * p1)) + l75_2).toNat) (dt 83 (((4 * l75_2) + 2).toNat))) 80 (((1170 + (16 * p1)) + l75_2).toNat) (dt 83 (((4 * l75_2) + 3).toNat))) hI55 hF56 (by first | omega | exact K1_0 (by omega) | exact K1_s (by assumption) (by omega) (by omega) rfl rfl rfl rfl) (by first | omega | exact K1_0 (by omega) | exact K1_s (by assumption) (by omega) (by omega) rfl rfl rfl rfl) (by first | omega | exact K1_0 (by omega) | exact K1_s (by assumption) (by omega) (by omega) rfl rfl rfl rfl) (by omega)) ⟨.inl rfl, .inl rfl, .inl rfl, trivial⟩
    exact GO.le (loop27 _ 0 (u2 dt 80 ((974 + p1).toNat) (dt 79 10)) hI5 hF6 (by first | omega | exact K1_0 (by omega) | exact K1_s (by assumption) (by omega) (by omega) rfl rfl rfl rfl) (by first | omega | exact K1_0 (by omega) | exact K1_s (by assumption) (by omega) (by omega) rfl rfl rfl rfl) (by first | omega | exact K1_0 (by omega) | exact K1_s (by assumption) (by omega) (by omega) rfl rfl rfl rfl) (Nat.lt_succ_self _)) ⟨.inl rfl, .inl rfl, .inl rfl, trivial⟩
  · skip
    exfalso; omega
set_option maxHeartbeats 8000000 in
set_option maxRecDepth 20000 in
theorem sp_X6_text (L : Nat) (xs : Nat → Int32) (sio : Option Nat) (d : Nat) (dt : Nat → Nat → Int) (hI : InvC dt) (hM : MW (dt 80))  (p1 : Int) (h_p1 : (-2147483648) ≤ p1 ∧ p1 ≤ 2147483647) (p2 : Int) (h_p2 : (-2147483648) ≤ p2 ∧ p2 ≤ 2147483647)  : GO (am_XX L xs sio) (d + 38) 174 0 [some (.inr (.inr (some 79))), some (.inl p1), some (.inl p2), none] [] (SH, dt) (fun r w2 => ∃ dt2 : Nat → Nat → Int, w2 = (SH, dt2) ∧ InvC dt2 ∧ Fr [79, 80, 82, 83, 84] dt dt2 ∧ ((∃ v : Int, r = some (.inl v) ∧ ((-1) ≤ v ∧ v ≤ 24) ∧ (dt2 79 12 = 0) ∧ (dt2 79 2 = dt 79 2) ∧ (MW (dt2 80)) ∧ (dt2 80 0 = dt 80 0) ∧ (dt2 80 1 = dt 80 1) ∧ (dt2 80 2 = dt 80 2) ∧ (dt2 80 3 = dt 80 3) ∧ (dt2 80 4 = dt 80 4) ∧ (dt2 80 5 = dt 80 5)))) := by
  have hF : Fr [79, 80, 82, 83, 84] dt dt := Fr_refl
  have r1 : 0 ≤ dt 79 15 ∧ dt 79 15 ≤ 500 := InvC_get hI 79 15 rfl rfl
  have r2 : 0 ≤ dt 79 11 ∧ dt 79 11 ≤ 510 := InvC_get hI 79 11 rfl rfl
  have r3 : 0 ≤ dt 79 10 ∧ dt 79 10 ≤ 24 := InvC_get hI 79 10 rfl rfl
  refine go_to (k := 2) (pc' := 2) (L' := [some (.inr (.inr (some 79))), some (.inl p1), some (.inl p2), none]) (st' := [.inl 0, .inr (.inr (some 79))]) (w' := (SH, dt)) (fun _ => rfl) ?_
  have hI4 : InvC (u2 dt 79 17 0) := InvC_u2 hI (lo := -2147483648) (hi := 2147483647) rfl rfl rfl (by omega) (by omega)
  have hF5 : Fr [79, 80, 82, 83, 84] dt (u2 dt 79 17 0) := Fr_u2 hF (by decide)
  have w6 : (u2 dt 79 17 0) 79 2 = dt 79 2 := rfl
  have w7 : (u2 dt 79 17 0) 79 9 = dt 79 9 := rfl
  have w8 : (u2 dt 79 17 0) 79 10 = dt 79 10 := rfl
  have w9 : (u2 dt 79 17 0) 79 11 = dt 79 11 := rfl
  have w10 : (u2 dt 79 17 0) 79 12 = dt 79 12 := rfl
  have w11 : (u2 dt 79 17 0) 79 13 = dt 79 13 := rfl
  have w12 : (u2 dt 79 17 0) 79 14 = dt 79 14 := rfl
  have w13 : (u2 dt 79 17 0) 79 15 = dt 79 15 := rfl
  have w14 : (u2 dt 79 17 0) 79 16 = dt 79 16 := rfl
  have w15 : (u2 dt 79 17 0) 79 20 = dt 79 20 := rfl
  have w16 : (u2 dt 79 17 0) 80 0 = dt 80 0 := rfl
  have w17 : (u2 dt 79 17 0) 80 1 = dt 80 1 := rfl
  have w18 : (u2 dt 79 17 0) 80 2 = dt 80 2 := rfl
  have w19 : (u2 dt 79 17 0) 80 3 = dt 80 3 := rfl
  have w20 : (u2 dt 79 17 0) 80 4 = dt 80 4 := rfl
  have w21 : (u2 dt 79 17 0) 80 5 = dt 80 5 := rfl
  have E8422 : (u2 dt 79 17 0) 84 = dt 84 := funext fun _ => u2_ne (by omega)
  refine go_smp (L' := [some (.inr (.inr (some 79))), some (.inl p1), some (.inl p2), none]) (st' := []) (w' := (SH, (u2 dt 79 17 0))) rfl rfl (s_pf rfl rfl rfl rfl ⟨by omega, by omega⟩) ?_
  refine go_to (k := 3) (pc' := 8) (L' := [some (.inr (.inr (some 79))), some (.inl p1), some (.inl p2), none]) (st' := [.inl 1, .inl 0, .inl p1]) (w' := (SH, (u2 dt 79 17 0))) (fun _ => rfl) ?_
  refine go_call (Q' := _) rfl rfl rfl rfl rfl (sp_X6_isIn L xs sio (d + 37) (u2 dt 79 17 0) hI4  p1 ⟨by omega, by omega⟩ 0 ⟨by omega, by omega⟩ 1 ⟨by omega, by omega⟩ ) ?_
  rintro _ _ ⟨rfl, h23⟩
  refine ⟨rfl, ?_⟩
  rcases h23 with ⟨rfl, h23⟩ | ⟨rfl, h23⟩
  · skip
    refine go_if (k := 5) (p1 := 25) (p2 := 20) (L' := [some (.inr (.inr (some 79))), some (.inl p1), some (.inl p2), none]) (st' := [.inl 0, .inl p2]) (w' := (SH, (u2 dt 79 17 0))) (fun _ => rfl) (z_ne (a := p1) ⟨by omega, by omega⟩) (fun c24 => ?_) (fun c24 => ?_)
    · skip
      refine go_to (k := 1) (pc' := 26) (L' := [some (.inr (.inr (some 79))), some (.inl p1), some (.inl p2), none]) (st' := [.inl 3, .inl 0, .inl p2]) (w' := (SH, (u2 dt 79 17 0))) (fun _ => rfl) ?_
      refine go_call (Q' := _) rfl rfl rfl rfl rfl (sp_X6_isIn L xs sio (d + 37) (u2 dt 79 17 0) hI4  p2 ⟨by omega, by omega⟩ 0 ⟨by omega, by omega⟩ 3 ⟨by omega, by omega⟩ ) ?_
      rintro _ _ ⟨rfl, h25⟩
      refine ⟨rfl, ?_⟩
      rcases h25 with ⟨rfl, h25⟩ | ⟨rfl, h25⟩
      · skip
        refine go_to (k := 3) (pc' := 51) (L' := [some (.inr (.inr (some 79))), some (.inl p1), some (.inl p2), none]) (st' := [.inl p1, .inr (.inr (some 79))]) (w' := (SH, (u2 dt 79 17 0))) (fun _ => rfl) ?_
        have hI26 : InvC (u2 (u2 dt 79 17 0) 79 9 p1) := InvC_u2 hI4 (lo := 0) (hi := 1) rfl rfl rfl (by omega) (by omega)
        have hF27 : Fr [79, 80, 82, 83, 84] dt (u2 (u2 dt 79 17 0) 79 9 p1) := Fr_u2 hF5 (by decide)
        have w28 : (u2 (u2 dt 79 17 0) 79 9 p1) 79 2 = (u2 dt 79 17 0) 79 2 := rfl
        have w29 : (u2 (u2 dt 79 17 0) 79 9 p1) 79 9 = p1 := rfl
        have w30 : (u2 (u2 dt 79 17 0) 79 9 p1) 79 10 = (u2 dt 79 17 0) 79 10 := rfl
        have w31 : (u2 (u2 dt 79 17 0) 79 9 p1) 79 11 = (u2 dt 79 17 0) 79 11 := rfl
        have w32 : (u2 (u2 dt 79 17 0) 79 9 p1) 79 12 = (u2 dt 79 17 0) 79 12 := rfl
        have w33 : (u2 (u2 dt 79 17 0) 79 9 p1) 79 13 = (u2 dt 79 17 0) 79 13 := rfl
        have w34 : (u2 (u2 dt 79 17 0) 79 9 p1) 79 14 = (u2 dt 79 17 0) 79 14 := rfl
        have w35 : (u2 (u2 dt 79 17 0) 79 9 p1) 79 15 = (u2 dt 79 17 0) 79 15 := rfl
        have w36 : (u2 (u2 dt 79 17 0) 79 9 p1) 79 16 = (u2 dt 79 17 0) 79 16 := rfl
        have w37 : (u2 (u2 dt 79 17 0) 79 9 p1) 79 20 = (u2 dt 79 17 0) 79 20 := rfl
        have w38 : (u2 (u2 dt 79 17 0) 79 9 p1) 80 0 = (u2 dt 79 17 0) 80 0 := rfl
        have w39 : (u2 (u2 dt 79 17 0) 79 9 p1) 80 1 = (u2 dt 79 17 0) 80 1 := rfl
        have w40 : (u2 (u2 dt 79 17 0) 79 9 p1) 80 2 = (u2 dt 79 17 0) 80 2 := rfl
        have w41 : (u2 (u2 dt 79 17 0) 79 9 p1) 80 3 = (u2 dt 79 17 0) 80 3 := rfl
        have w42 : (u2 (u2 dt 79 17 0) 79 9 p1) 80 4 = (u2 dt 79 17 0) 80 4 := rfl
        have w43 : (u2 (u2 dt 79 17 0) 79 9 p1) 80 5 = (u2 dt 79 17 0) 80 5 := rfl
        have E8444 : (u2 (u2 dt 79 17 0) 79 9 p1) 84 = dt 84 := (funext fun _ => u2_ne (by omega)).trans E8422
        refine go_smp (L' := [some (.inr (.inr (some 79))), some (.inl p1), some (.inl p2), none]) (st' := []) (w' := (SH, (u2 (u2 dt 79 17 0) 79 9 p1))) rfl rfl (s_pf rfl rfl rfl rfl ⟨by omega, by omega⟩) ?_
        refine go_to (k := 2) (pc' := 56) (L' := [some (.inr (.inr (some 79))), some (.inl p1), some (.inl p2), none]) (st' := [.inl 0, .inr (.inr (some 79))]) (w' := (SH, (u2 (u2 dt 79 17 0) 79 9 p1))) (fun _ => rfl) ?_
        have hI45 : InvC (u2 (u2 (u2 dt 79 17 0) 79 9 p1) 79 13 0) := InvC_u2 hI26 (lo := 0) (hi := 501) rfl rfl rfl (by omega) (by omega)
        have hF46 : Fr [79, 80, 82, 83, 84] dt (u2 (u2 (u2 dt 79 17 0) 79 9 p1) 79 13 0) := Fr_u2 hF27 (by decide)
        have w47 : (u2 (u2 (u2 dt 79 17 0) 79 9 p1) 79 13 0) 79 2 = (u2 (u2 dt 79 17 0) 79 9 p1) 79 2 := rfl
        have w48 : (u2 (u2 (u2 dt 79 17 0) 79 9 p1) 79 13 0) 79 9 = (u2 (u2 dt 79 17 0) 79 9 p1) 79 9 := rfl
        have w49 : (u2 (u2 (u2 dt 79 17 0) 79 9 p1) 79 13 0) 79 10 = (u2 (u2 dt 79 17 0) 79 9 p1) 79 10 := rfl
        have w50 : (u2 (u2 (u2 dt 79 17 0) 79 9 p1) 79 13 0) 79 11 = (u2 (u2 dt 79 17 0) 79 9 p1) 79 11 := rfl
        have w51 : (u2 (u2 (u2 dt 79 17 0) 79 9 p1) 79 13 0) 79 12 = (u2 (u2 dt 79 17 0) 79 9 p1) 79 12 := rfl
        have w52 : (u2 (u2 (u2 dt 79 17 0) 79 9 p1) 79 13 0) 79 13 = 0 := rfl
        have w53 : (u2 (u2 (u2 dt 79 17 0) 79 9 p1) 79 13 0) 79 14 = (u2 (u2 dt 79 17 0) 79 9 p1) 79 14 := rfl
        have w54 : (u2 (u2 (u2 dt 79 17 0) 79 9 p1) 79 13 0) 79 15 = (u2 (u2 dt 79 17 0) 79 9 p1) 79 15 := rfl
        have w55 : (u2 (u2 (u2 dt 79 17 0) 79 9 p1) 79 13 0) 79 16 = (u2 (u2 dt 79 17 0) 79 9 p1) 79 16 := rfl
        have w56 : (u2 (u2 (u2 dt 79 17 0) 79 9 p1) 79 13 0) 79 20 = (u2 (u2 dt 79 17 0) 79 9 p1) 79 20 := rfl
        have w57 : (u2 (u2 (u2 dt 79 17 0) 79 9 p1) 79 13 0) 80 0 = (u2 (u2 dt 79 17 0) 79 9 p1) 80 0 := rfl
        have w58 : (u2 (u2 (u2 dt 79 17 0) 79 9 p1) 79 13 0) 80 1 = (u2 (u2 dt 79 17 0) 79 9 p1) 80 1 := rfl
        have w59 : (u2 (u2 (u2 dt 79 17 0) 79 9 p1) 79 13 0) 80 2 = (u2 (u2 dt 79 17 0) 79 9 p1) 80 2 := rfl
        have w60 : (u2 (u2 (u2 dt 79 17 0) 79 9 p1) 79 13 0) 80 3 = (u2 (u2 dt 79 17 0) 79 9 p1) 80 3 := rfl
        have w61 : (u2 (u2 (u2 dt 79 17 0) 79 9 p1) 79 13 0) 80 4 = (u2 (u2 dt 79 17 0) 79 9 p1) 80 4 := rfl
        have w62 : (u2 (u2 (u2 dt 79 17 0) 79 9 p1) 79 13 0) 80 5 = (u2 (u2 dt 79 17 0) 79 9 p1) 80 5 := rfl
        have E8463 : (u2 (u2 (u2 dt 79 17 0) 79 9 p1) 79 13 0) 84 = dt 84 := (funext fun _ => u2_ne (by omega)).trans E8444
        refine go_smp (L' := [some (.inr (.inr (some 79))), some (.inl p1), some (.inl p2), none]) (st' := []) (w' := (SH, (u2 (u2 (u2 dt 79 17 0) 79 9 p1) 79 13 0))) rfl rfl (s_pf rfl rfl rfl rfl ⟨by omega, by omega⟩) ?_
        refine go_to (k := 2) (pc' := 61) (L' := [some (.inr (.inr (some 79))), some (.inl p1), some (.inl p2), none]) (st' := [.inl 0, .inr (.inr (some 79))]) (w' := (SH, (u2 (u2 (u2 dt 79 17 0) 79 9 p1) 79 13 0))) (fun _ => rfl) ?_
        have hI64 : InvC (u2 (u2 (u2 (u2 dt 79 17 0) 79 9 p1) 79 13 0) 79 10 0) := InvC_u2 hI45 (lo := 0) (hi := 24) rfl rfl rfl (by omega) (by omega)
        have hF65 : Fr [79, 80, 82, 83, 84] dt (u2 (u2 (u2 (u2 dt 79 17 0) 79 9 p1) 79 13 0) 79 10 0) := Fr_u2 hF46 (by decide)
        have w66 : (u2 (u2 (u2 (u2 dt 79 17 0) 79 9 p1) 79 13 0) 79 10 0) 79 2 = (u2 (u2 (u2 dt 79 17 0) 79 9 p1) 79 13 0) 79 2 := rfl
        have w67 : (u2 (u2 (u2 (u2 dt 79 17 0) 79 9 p1) 79 13 0) 79 10 0) 79 9 = (u2 (u2 (u2 dt 79 17 0) 79 9 p1) 79 13 0) 79 9 := rfl
        have w68 : (u2 (u2 (u2 (u2 dt 79 17 0) 79 9 p1) 79 13 0) 79 10 0) 79 10 = 0 := rfl
        have w69 : (u2 (u2 (u2 (u2 dt 79 17 0) 79 9 p1) 79 13 0) 79 10 0) 79 11 = (u2 (u2 (u2 dt 79 17 0) 79 9 p1) 79 13 0) 79 11 := rfl
        have w70 : (u2 (u2 (u2 (u2 dt 79 17 0) 79 9 p1) 79 13 0) 79 10 0) 79 12 = (u2 (u2 (u2 dt 79 17 0) 79 9 p1) 79 13 0) 79 12 := rfl
        have w71 : (u2 (u2 (u2 (u2 dt 79 17 0) 79 9 p1) 79 13 0) 79 10 0) 79 13 = (u2 (u2 (u2 dt 79 17 0) 79 9 p1) 79 13 0) 79 13 := rfl
        have w72 : (u2 (u2 (u2 (u2 dt 79 17 0) 79 9 p1) 79 13 0) 79 10 0) 79 14 = (u2 (u2 (u2 dt 79 17 0) 79 9 p1) 79 13 0) 79 14 := rfl
        have w73 : (u2 (u2 (u2 (u2 dt 79 17 0) 79 9 p1) 79 13 0) 79 10 0) 79 15 = (u2 (u2 (u2 dt 79 17 0) 79 9 p1) 79 13 0) 79 15 := rfl
        have w74 : (u2 (u2 (u2 (u2 dt 79 17 0) 79 9 p1) 79 13 0) 79 10 0) 79 16 = (u2 (u2 (u2 dt 79 17 0) 79 9 p1) 79 13 0) 79 16 := rfl
        have w75 : (u2 (u2 (u2 (u2 dt 79 17 0) 79 9 p1) 79 13 0) 79 10 0) 79 20 = (u2 (u2 (u2 dt 79 17 0) 79 9 p1) 79 13 0) 79 20 := rfl
        have w76 : (u2 (u2 (u2 (u2 dt 79 17 0) 79 9 p1) 79 13 0) 79 10 0) 80 0 = (u2 (u2 (u2 dt 79 17 0) 79 9 p1) 79 13 0) 80 0 := rfl
        have w77 : (u2 (u2 (u2 (u2 dt 79 17 0) 79 9 p1) 79 13 0) 79 10 0) 80 1 = (u2 (u2 (u2 dt 79 17 0) 79 9 p1) 79 13 0) 80 1 := rfl
        have w78 : (u2 (u2 (u2 (u2 dt 79 17 0) 79 9 p1) 79 13 0) 79 10 0) 80 2 = (u2 (u2 (u2 dt 79 17 0) 79 9 p1) 79 13 0) 80 2 := rfl
        have w79 : (u2 (u2 (u2 (u2 dt 79 17 0) 79 9 p1) 79 13 0) 79 10 0) 80 3 = (u2 (u2 (u2 dt 79 17 0) 79 9 p1) 79 13 0) 80 3 := rfl
        have w80 : (u2 (u2 (u2 (u2 dt 79 17 0) 79 9 p1) 79 13 0) 79 10 0) 80 4 = (u2 (u2 (u2 dt 79 17 0) 79 9 p1) 79 13 0) 80 4 := rfl
        have w81 : (u2 (u2 (u2 (u2 dt 79 17 0) 79 9 p1) 79 13 0) 79 10 0) 80 5 = (u2 (u2 (u2 dt 79 17 0) 79 9 p1) 79 13 0) 80 5 := rfl
        have E8482 : (u2 (u2 (u2 (u2 dt 79 17 0) 79 9 p1) 79 13 0) 79 10 0) 84 = dt 84 := (funext fun _ => u2_ne (by omega)).trans E8463
        refine go_smp (L' := [some (.inr (.inr (some 79))), some (.inl p1), some (.inl p2), none]) (st' := []) (w' := (SH, (u2 (u2 (u2 (u2 dt 79 17 0) 79 9 p1) 79 13 0) 79 10 0))) rfl rfl (s_pf rfl rfl rfl rfl ⟨by omega, by omega⟩) ?_
        refine go_to (k := 2) (pc' := 66) (L' := [some (.inr (.inr (some 79))), some (.inl p1), some (.inl p2), none]) (st' := [.inl 0, .inr (.inr (some 79))]) (w' := (SH, (u2 (u2 (u2 (u2 dt 79 17 0) 79 9 p1) 79 13 0) 79 10 0))) (fun _ => rfl) ?_
        have hI83 : InvC (u2 (u2 (u2 (u2 (u2 dt 79 17 0) 79 9 p1) 79 13 0) 79 10 0) 79 11 0) := InvC_u2 hI64 (lo := 0) (hi := 510) rfl rfl rfl (by omega) (by omega)
        have hF84 : Fr [79, 80, 82, 83, 84] dt (u2 (u2 (u2 (u2 (u2 dt 79 17 0) 79 9 p1) 79 13 0) 79 10 0) 79 11 0) := Fr_u2 hF65 (by decide)
        have w85 : (u2 (u2 (u2 (u2 (u2 dt 79 17 0) 79 9 p1) 79 13 0) 79 10 0) 79 11 0) 79 2 = (u2 (u2 (u2 (u2 dt 79 17 0) 79 9 p1) 79 13 0) 79 10 0) 79 2 := rfl
        have w86 : (u2 (u2 (u2 (u2 (u2 dt 79 17 0) 79 9 p1) 79 13 0) 79 10 0) 79 11 0) 79 9 = (u2 (u2 (u2 (u2 dt 79 17 0) 79 9 p1) 79 13 0) 79 10 0) 79 9 := rfl
        have w87 : (u2 (u2 (u2 (u2 (u2 dt 79 17 0) 79 9 p1) 79 13 0) 79 10 0) 79 11 0) 79 10 = (u2 (u2 (u2 (u2 dt 79 17 0) 79 9 p1) 79 13 0) 79 10 0) 79 10 := rfl
        have w88 : (u2 (u2 (u2 (u2 (u2 dt 79 17 0) 79 9 p1) 79 13 0) 79 10 0) 79 11 0) 79 11 = 0 := rfl
        have w89 : (u2 (u2 (u2 (u2 (u2 dt 79 17 0) 79 9 p1) 79 13 0) 79 10 0) 79 11 0) 79 12 = (u2 (u2 (u2 (u2 dt 79 17 0) 79 9 p1) 79 13 0) 79 10 0) 79 12 := rfl
        have w90 : (u2 (u2 (u2 (u2 (u2 dt 79 17 0) 79 9 p1) 79 13 0) 79 10 0) 79 11 0) 79 13 = (u2 (u2 (u2 (u2 dt 79 17 0) 79 9 p1) 79 13 0) 79 10 0) 79 13 := rfl
        have w91 : (u2 (u2 (u2 (u2 (u2 dt 79 17 0) 79 9 p1) 79 13 0) 79 10 0) 79 11 0) 79 14 = (u2 (u2 (u2 (u2 dt 79 17 0) 79 9 p1) 79 13 0) 79 10 0) 79 14 := rfl
        have w92 : (u2 (u2 (u2 (u2 (u2 dt 79 17 0) 79 9 p1) 79 13 0) 79 10 0) 79 11 0) 79 15 = (u2 (u2 (u2 (u2 dt 79 17 0) 79 9 p1) 79 13 0) 79 10 0) 79 15 := rfl
        have w93 : (u2 (u2 (u2 (u2 (u2 dt 79 17 0) 79 9 p1) 79 13 0) 79 10 0) 79 11 0) 79 16 = (u2 (u2 (u2 (u2 dt 79 17 0) 79 9 p1) 79 13 0) 79 10 0) 79 16 := rfl
        have w94 : (u2 (u2 (u2 (u2 (u2 dt 79 17 0) 79 9 p1) 79 13 0) 79 10 0) 79 11 0) 79 20 = (u2 (u2 (u2 (u2 dt 79 17 0) 79 9 p1) 79 13 0) 79 10 0) 79 20 := rfl
        have w95 : (u2 (u2 (u2 (u2 (u2 dt 79 17 0) 79 9 p1) 79 13 0) 79 10 0) 79 11 0) 80 0 = (u2 (u2 (u2 (u2 dt 79 17 0) 79 9 p1) 79 13 0) 79 10 0) 80 0 := rfl
        have w96 : (u2 (u2 (u2 (u2 (u2 dt 79 17 0) 79 9 p1) 79 13 0) 79 10 0) 79 11 0) 80 1 = (u2 (u2 (u2 (u2 dt 79 17 0) 79 9 p1) 79 13 0) 79 10 0) 80 1 := rfl
        have w97 : (u2 (u2 (u2 (u2 (u2 dt 79 17 0) 79 9 p1) 79 13 0) 79 10 0) 79 11 0) 80 2 = (u2 (u2 (u2 (u2 dt 79 17 0) 79 9 p1) 79 13 0) 79 10 0) 80 2 := rfl
        have w98 : (u2 (u2 (u2 (u2 (u2 dt 79 17 0) 79 9 p1) 79 13 0) 79 10 0) 79 11 0) 80 3 = (u2 (u2 (u2 (u2 dt 79 17 0) 79 9 p1) 79 13 0) 79 10 0) 80 3 := rfl
        have w99 : (u2 (u2 (u2 (u2 (u2 dt 79 17 0) 79 9 p1) 79 13 0) 79 10 0) 79 11 0) 80 4 = (u2 (u2 (u2 (u2 dt 79 17 0) 79 9 p1) 79 13 0) 79 10 0) 80 4 := rfl
        have w100 : (u2 (u2 (u2 (u2 (u2 dt 79 17 0) 79 9 p1) 79 13 0) 79 10 0) 79 11 0) 80 5 = (u2 (u2 (u2 (u2 dt 79 17 0) 79 9 p1) 79 13 0) 79 10 0) 80 5 := rfl
        have E84101 : (u2 (u2 (u2 (u2 (u2 dt 79 17 0) 79 9 p1) 79 13 0) 79 10 0) 79 11 0) 84 = dt 84 := (funext fun _ => u2_ne (by omega)).trans E8482
        refine go_smp (L' := [some (.inr (.inr (some 79))), some (.inl p1), some (.inl p2), none]) (st' := []) (w' := (SH, (u2 (u2 (u2 (u2 (u2 dt 79 17 0) 79 9 p1) 79 13 0) 79 10 0) 79 11 0))) rfl rfl (s_pf rfl rfl rfl rfl ⟨by omega, by omega⟩) ?_
        refine go_to (k := 1) (pc' := 70) (L' := [some (.inr (.inr (some 79))), some (.inl p1), some (.inl p2), none]) (st' := [.inr (.inr (some 79))]) (w' := (SH, (u2 (u2 (u2 (u2 (u2 dt 79 17 0) 79 9 p1) 79 13 0) 79 10 0) 79 11 0))) (fun _ => rfl) ?_
        refine go_call (Q' := _) rfl rfl rfl rfl rfl (sp_X6_next0 L xs sio (d + 31) (u2 (u2 (u2 (u2 (u2 dt 79 17 0) 79 9 p1) 79 13 0) 79 10 0) 79 11 0) hI83   (by first | trivial | omega | exact hI4 (by omega) (by omega) | exact hI5 (by omega) (by omega))) ?_
        rintro _ _ ⟨dt103, rfl, hI104, hF105, h102⟩
        refine ⟨rfl, ?_⟩
        have hF106 : Fr [79, 80, 82, 83, 84] dt dt103 := Fr_tr hF84 hF105 (by decide)
        have hM107 : MW (dt103 80) := MW_fr (d0 := (u2 (u2 (u2 (u2 (u2 dt 79 17 0) 79 9 p1) 79 13 0) 79 10 0) 79 11 0)) hM hF105 (by decide)
        have w108 : dt103 80 0 = (u2 (u2 (u2 (u2 (u2 dt 79 17 0) 79 9 p1) 79 13 0) 79 10 0) 79 11 0) 80 0 := hF105 80 (by decide) 0
        have w109 : dt103 80 1 = (u2 (u2 (u2 (u2 (u2 dt 79 17 0) 79 9 p1) 79 13 0) 79 10 0) 79 11 0) 80 1 := hF105 80 (by decide) 1
        have w110 : dt103 80 2 = (u2 (u2 (u2 (u2 (u2 dt 79 17 0) 79 9 p1) 79 13 0) 79 10 0) 79 11 0) 80 2 := hF105 80 (by decide) 2
        have w111 : dt103 80 3 = (u2 (u2 (u2 (u2 (u2 dt 79 17 0) 79 9 p1) 79 13 0) 79 10 0) 79 11 0) 80 3 := hF105 80 (by decide) 3
        have w112 : dt103 80 4 = (u2 (u2 (u2 (u2 (u2 dt 79 17 0) 79 9 p1) 79 13 0) 79 10 0) 79 11 0) 80 4 := hF105 80 (by decide) 4
        have w113 : dt103 80 5 = (u2 (u2 (u2 (u2 (u2 dt 79 17 0) 79 9 p1) 79 13 0) 79 10 0) 79 11 0) 80 5 := hF105 80 (by decide) 5
        have E84114 : dt103 84 = dt 84 := (funext (hF105 84 (by decide))).trans E84101
        rcases h102 with ⟨rfl, h102⟩
        obtain ⟨h102_0, h102_1, h102_2, h102_3, h102_4, h102_5, h102_6, h102_7, h102_8⟩ := h102
        refine go_to (k := 2) (pc' := 75) (L' := [some (.inr (.inr (some 79))), some (.inl p1), some (.inl p2), some (.inl 1)]) (st' := []) (w' := (SH, dt103)) (fun _ => rfl) ?_
        have loop190 : ∀ (k_ : Nat) (l75_3 : Int) (dt172 : Nat → Nat → Int) (hI173 : InvC dt172) (hF174 : Fr [79, 80, 82, 83, 84] dt dt172) (hM_dt172 : MW (dt172 80)) (i175 : 0 ≤ l75_3 ∧ l75_3 ≤ 1) (i176 : l75_3 = 1 → (¬ dt172 79 14 = 0 → dt172 79 15 + 1 ≤ dt172 79 13) ∧ dt172 79 13 ≤ 500) (i177 : dt172 79 15 ≤ 500) (i178 : l75_3 = 1 → dt172 79 11 ≤ dt172 79 15) (i179 : l75_3 = 1 → p1 = 1 → dt172 79 10 ≤ 16) (i180 : l75_3 = 1 → p1 = 0 → ARW (dt172 82) (dt172 79 10)) (i181 : l75_3 = 1 → p1 = 1 → LRW (dt172 83) (dt172 84) (dt172 79 10) (dt172 79 11)) (i182 : dt172 79 2 = dt 79 2) (i183 : dt172 79 9 = p1) (i184 : dt172 80 0 = dt103 80 0) (i185 : dt172 80 1 = dt103 80 1) (i186 : dt172 80 2 = dt103 80 2) (i187 : dt172 80 3 = dt103 80 3) (i188 : dt172 80 4 = dt103 80 4) (i189 : dt172 80 5 = dt103 80 5), (l75_3 * (502 - dt172 79 15)).toNat < k_ → GO (am_XX L xs sio) (d + 38) 174 75 [some (.inr (.inr (some 79))), some (.inl p1), some (.inl p2), some (.inl l75_3)] [] (SH, dt172) (fun r w2 => ∃ dt2 : Nat → Nat → Int, w2 = (SH, dt2) ∧ InvC dt2 ∧ Fr [79, 80, 82, 83, 84] dt dt2 ∧ ((∃ v : Int, r = some (.inl v) ∧ ((-1) ≤ v ∧ v ≤ 24) ∧ (dt2 79 12 = 0) ∧ (dt2 79 2 = dt 79 2) ∧ (MW (dt2 80)) ∧ (dt2 80 0 = dt 80 0) ∧ (dt2 80 1 = dt 80 1) ∧ (dt2 80 2 = dt 80 2) ∧ (dt2 80 3 = dt 80 3) ∧ (dt2 80 4 = dt 80 4) ∧ (dt2 80 5 = dt 80 5)))) := by
          intro k_
          induction k_ with
          | zero => intro l75_3 dt172 hI173 hF174 hM_dt172 i175 i176 i177 i178 i179 i180 i181 i182 i183 i184 i185 i186 i187 i188 i189 hm; exact absurd hm (Nat.not_lt_zero _)
          | succ k_ ih_loop190 =>
            intro l75_3 dt172 hI173 hF174 hM_dt172 i175 i176 i177 i178 i179 i180 i181 i182 i183 i184 i185 i186 i187 i188 i189 hm
            have hI4 := i180
            have hI5 := i181
            have hm1 : l75_3 = 1 → (l75_3 * (502 - dt172 79 15)).toNat = (502 - dt172 79 15).toNat := fun e => by rw [e, Int.one_mul]
            refine go_if (k := 2) (p1 := 123) (p2 := 79) (L' := [some (.inr (.inr (some 79))), some (.inl p1), some (.inl p2), some (.inl l75_3)]) (st' := []) (w' := (SH, dt172)) (fun _ => rfl) (z_eq (a := l75_3) ⟨by omega, by omega⟩) (fun c191 => ?_) (fun c191 => ?_)
            · skip
              refine go_to (k := 2) (pc' := 125) (L' := [some (.inr (.inr (some 79))), some (.inl p1), some (.inl p2), some (.inl l75_3)]) (st' := [.inl 0, .inr (.inr (some 79))]) (w' := (SH, dt172)) (fun _ => rfl) ?_
              have hI192 : InvC (u2 dt172 79 12 0) := InvC_u2 hI173 (lo := 0) (hi := 500) rfl rfl rfl (by omega) (by omega)
              have hF193 : Fr [79, 80, 82, 83, 84] dt (u2 dt172 79 12 0) := Fr_u2 hF174 (by decide)
              have w194 : (u2 dt172 79 12 0) 79 2 = dt172 79 2 := rfl
              have w195 : (u2 dt172 79 12 0) 79 9 = dt172 79 9 := rfl
              have w196 : (u2 dt172 79 12 0) 79 10 = dt172 79 10 := rfl
              have w197 : (u2 dt172 79 12 0) 79 11 = dt172 79 11 := rfl
              have w198 : (u2 dt172 79 12 0) 79 12 = 0 := rfl
              have w199 : (u2 dt172 79 12 0) 79 13 = dt172 79 13 := rfl
              have w200 : (u2 dt172 79 12 0) 79 14 = dt172 79 14 := rfl
              have w201 : (u2 dt172 79 12 0) 79 15 = dt172 79 15 := rfl
              have w202 : (u2 dt172 79 12 0) 79 16 = dt172 79 16 := rfl
              have w203 : (u2 dt172 79 12 0) 79 20 = dt172 79 20 := rfl
              have w204 : (u2 dt172 79 12 0) 80 0 = dt172 80 0 := rfl
              have w205 : (u2 dt172 79 12 0) 80 1 = dt172 80 1 := rfl
              have w206 : (u2 dt172 79 12 0) 80 2 = dt172 80 2 := rfl
              have w207 : (u2 dt172 79 12 0) 80 3 = dt172 80 3 := rfl
              have w208 : (u2 dt172 79 12 0) 80 4 = dt172 80 4 := rfl
              have w209 : (u2 dt172 79 12 0) 80 5 = dt172 80 5 := rfl
              have E84210 : (u2 dt172 79 12 0) 84 = dt172 84 := funext fun _ => u2_ne (by omega)
              refine go_smp (L' := [some (.inr (.inr (some 79))), some (.inl p1), some (.inl p2), some (.inl l75_3)]) (st' := []) (w' := (SH, (u2 dt172 79 12 0))) rfl rfl (s_pf rfl rfl rfl rfl ⟨by omega, by omega⟩) ?_
              have r211 : (-2147483648) ≤ dt172 79 17 ∧ dt172 79 17 ≤ 2147483647 := InvC_get hI173 79 17 rfl rfl
              refine go_to (k := 3) (pc' := 133) (L' := [some (.inr (.inr (some 79))), some (.inl p1), some (.inl p2), some (.inl l75_3)]) (st' := [.inl (dt172 79 17), .inr (.inr (some 79))]) (w' := (SH, (u2 dt172 79 12 0))) (fun _ => rfl) ?_
              have hI212 : InvC (u2 (u2 dt172 79 12 0) 79 19 (dt172 79 17)) := InvC_u2 hI192 (lo := -2147483648) (hi := 2147483647) rfl rfl rfl (by omega) (by omega)
              have hF213 : Fr [79, 80, 82, 83, 84] dt (u2 (u2 dt172 79 12 0) 79 19 (dt172 79 17)) := Fr_u2 hF193 (by decide)
              have w214 : (u2 (u2 dt172 79 12 0) 79 19 (dt172 79 17)) 79 2 = (u2 dt172 79 12 0) 79 2 := rfl
              have w215 : (u2 (u2 dt172 79 12 0) 79 19 (dt172 79 17)) 79 9 = (u2 dt172 79 12 0) 79 9 := rfl
              have w216 : (u2 (u2 dt172 79 12 0) 79 19 (dt172 79 17)) 79 10 = (u2 dt172 79 12 0) 79 10 := rfl
              have w217 : (u2 (u2 dt172 79 12 0) 79 19 (dt172 79 17)) 79 11 = (u2 dt172 79 12 0) 79 11 := rfl
              have w218 : (u2 (u2 dt172 79 12 0) 79 19 (dt172 79 17)) 79 12 = (u2 dt172 79 12 0) 79 12 := rfl
              have w219 : (u2 (u2 dt172 79 12 0) 79 19 (dt172 79 17)) 79 13 = (u2 dt172 79 12 0) 79 13 := rfl
              have w220 : (u2 (u2 dt172 79 12 0) 79 19 (dt172 79 17)) 79 14 = (u2 dt172 79 12 0) 79 14 := rfl
              have w221 : (u2 (u2 dt172 79 12 0) 79 19 (dt172 79 17)) 79 15 = (u2 dt172 79 12 0) 79 15 := rfl
              have w222 : (u2 (u2 dt172 79 12 0) 79 19 (dt172 79 17)) 79 16 = (u2 dt172 79 12 0) 79 16 := rfl
              have w223 : (u2 (u2 dt172 79 12 0) 79 19 (dt172 79 17)) 79 20 = (u2 dt172 79 12 0) 79 20 := rfl
              have w224 : (u2 (u2 dt172 79 12 0) 79 19 (dt172 79 17)) 80 0 = (u2 dt172 79 12 0) 80 0 := rfl
              have w225 : (u2 (u2 dt172 79 12 0) 79 19 (dt172 79 17)) 80 1 = (u2 dt172 79 12 0) 80 1 := rfl
              have w226 : (u2 (u2 dt172 79 12 0) 79 19 (dt172 79 17)) 80 2 = (u2 dt172 79 12 0) 80 2 := rfl
              have w227 : (u2 (u2 dt172 79 12 0) 79 19 (dt172 79 17)) 80 3 = (u2 dt172 79 12 0) 80 3 := rfl
              have w228 : (u2 (u2 dt172 79 12 0) 79 19 (dt172 79 17)) 80 4 = (u2 dt172 79 12 0) 80 4 := rfl
              have w229 : (u2 (u2 dt172 79 12 0) 79 19 (dt172 79 17)) 80 5 = (u2 dt172 79 12 0) 80 5 := rfl
              have E84230 : (u2 (u2 dt172 79 12 0) 79 19 (dt172 79 17)) 84 = dt172 84 := (funext fun _ => u2_ne (by omega)).trans E84210
              refine go_smp (L' := [some (.inr (.inr (some 79))), some (.inl p1), some (.inl p2), some (.inl l75_3)]) (st' := []) (w' := (SH, (u2 (u2 dt172 79 12 0) 79 19 (dt172 79 17)))) rfl rfl (s_pf rfl rfl rfl rfl ⟨by omega, by omega⟩) ?_
              refine go_if (k := 3) (p1 := 145) (p2 := 141) (L' := [some (.inr (.inr (some 79))), some (.inl p1), some (.inl p2), some (.inl l75_3)]) (st' := [.inr (.inr (some 79))]) (w' := (SH, (u2 (u2 dt172 79 12 0) 79 19 (dt172 79 17)))) (fun _ => rfl) (z_eq (a := l75_3) ⟨by omega, by omega⟩) (fun c231 => ?_) (fun c231 => ?_)
              · skip
                have r232 : (-2147483648) ≤ dt172 79 18 ∧ dt172 79 18 ≤ 2147483647 := InvC_get hI173 79 18 rfl rfl
                refine go_to (k := 2) (pc' := 149) (L' := [some (.inr (.inr (some 79))), some (.inl p1), some (.inl p2), some (.inl l75_3)]) (st' := [.inl (dt172 79 18), .inr (.inr (some 79))]) (w' := (SH, (u2 (u2 dt172 79 12 0) 79 19 (dt172 79 17)))) (fun _ => rfl) ?_
                have hI233 : InvC (u2 (u2 (u2 dt172 79 12 0) 79 19 (dt172 79 17)) 79 21 (dt172 79 18)) := InvC_u2 hI212 (lo := -2147483648) (hi := 2147483647) rfl rfl rfl (by omega) (by omega)
                have hF234 : Fr [79, 80, 82, 83, 84] dt (u2 (u2 (u2 dt172 79 12 0) 79 19 (dt172 79 17)) 79 21 (dt172 79 18)) := Fr_u2 hF213 (by decide)
                have w235 : (u2 (u2 (u2 dt172 79 12 0) 79 19 (dt172 79 17)) 79 21 (dt172 79 18)) 79 2 = (u2 (u2 dt172 79 12 0) 79 19 (dt172 79 17)) 79 2 := rfl
                have w236 : (u2 (u2 (u2 dt172 79 12 0) 79 19 (dt172 79 17)) 79 21 (dt172 79 18)) 79 9 = (u2 (u2 dt172 79 12 0) 79 19 (dt172 79 17)) 79 9 := rfl
                have w237 : (u2 (u2 (u2 dt172 79 12 0) 79 19 (dt172 79 17)) 79 21 (dt172 79 18)) 79 10 = (u2 (u2 dt172 79 12 0) 79 19 (dt172 79 17)) 79 10 := rfl
                have w238 : (u2 (u2 (u2 dt172 79 12 0) 79 19 (dt172 79 17)) 79 21 (dt172 79 18)) 79 11 = (u2 (u2 dt172 79 12 0) 79 19 (dt172 79 17)) 79 11 := rfl
                have w239 : (u2 (u2 (u2 dt172 79 12 0) 79 19 (dt172 79 17)) 79 21 (dt172 79 18)) 79 12 = (u2 (u2 dt172 79 12 0) 79 19 (dt172 79 17)) 79 12 := rfl
                have w240 : (u2 (u2 (u2 dt172 79 12 0) 79 19 (dt172 79 17)) 79 21 (dt172 79 18)) 79 13 = (u2 (u2 dt172 79 12 0) 79 19 (dt172 79 17)) 79 13 := rfl
                have w241 : (u2 (u2 (u2 dt172 79 12 0) 79 19 (dt172 79 17)) 79 21 (dt172 79 18)) 79 14 = (u2 (u2 dt172 79 12 0) 79 19 (dt172 79 17)) 79 14 := rfl
                have w242 : (u2 (u2 (u2 dt172 79 12 0) 79 19 (dt172 79 17)) 79 21 (dt172 79 18)) 79 15 = (u2 (u2 dt172 79 12 0) 79 19 (dt172 79 17)) 79 15 := rfl
                have w243 : (u2 (u2 (u2 dt172 79 12 0) 79 19 (dt172 79 17)) 79 21 (dt172 79 18)) 79 16 = (u2 (u2 dt172 79 12 0) 79 19 (dt172 79 17)) 79 16 := rfl
                have w244 : (u2 (u2 (u2 dt172 79 12 0) 79 19 (dt172 79 17)) 79 21 (dt172 79 18)) 79 20 = (u2 (u2 dt172 79 12 0) 79 19 (dt172 79 17)) 79 20 := rfl
                have w245 : (u2 (u2 (u2 dt172 79 12 0) 79 19 (dt172 79 17)) 79 21 (dt172 79 18)) 80 0 = (u2 (u2 dt172 79 12 0) 79 19 (dt172 79 17)) 80 0 := rfl
                have w246 : (u2 (u2 (u2 dt172 79 12 0) 79 19 (dt172 79 17)) 79 21 (dt172 79 18)) 80 1 = (u2 (u2 dt172 79 12 0) 79 19 (dt172 79 17)) 80 1 := rfl
                have w247 : (u2 (u2 (u2 dt172 79 12 0) 79 19 (dt172 79 17)) 79 21 (dt172 79 18)) 80 2 = (u2 (u2 dt172 79 12 0) 79 19 (dt172 79 17)) 80 2 := rfl
                have w248 : (u2 (u2 (u2 dt172 79 12 0) 79 19 (dt172 79 17)) 79 21 (dt172 79 18)) 80 3 = (u2 (u2 dt172 79 12 0) 79 19 (dt172 79 17)) 80 3 := rfl
                have w249 : (u2 (u2 (u2 dt172 79 12 0) 79 19 (dt172 79 17)) 79 21 (dt172 79 18)) 80 4 = (u2 (u2 dt172 79 12 0) 79 19 (dt172 79 17)) 80 4 := rfl
                have w250 : (u2 (u2 (u2 dt172 79 12 0) 79 19 (dt172 79 17)) 79 21 (dt172 79 18)) 80 5 = (u2 (u2 dt172 79 12 0) 79 19 (dt172 79 17)) 80 5 := rfl
                have E84251 : (u2 (u2 (u2 dt172 79 12 0) 79 19 (dt172 79 17)) 79 21 (dt172 79 18)) 84 = dt172 84 := (funext fun _ => u2_ne (by omega)).trans E84230
                refine go_smp (L' := [some (.inr (.inr (some 79))), some (.inl p1), some (.inl p2), some (.inl l75_3)]) (st' := []) (w' := (SH, (u2 (u2 (u2 dt172 79 12 0) 79 19 (dt172 79 17)) 79 21 (dt172 79 18)))) rfl rfl (s_pf rfl rfl rfl rfl ⟨by omega, by omega⟩) ?_
                refine go_if (k := 2) (p1 := 158) (p2 := 156) (L' := [some (.inr (.inr (some 79))), some (.inl p1), some (.inl p2), some (.inl l75_3)]) (st' := []) (w' := (SH, (u2 (u2 (u2 dt172 79 12 0) 79 19 (dt172 79 17)) 79 21 (dt172 79 18)))) (fun _ => rfl) (z_ne (a := l75_3) ⟨by omega, by omega⟩) (fun c252 => ?_) (fun c252 => ?_)
                · skip
                  refine go_to (k := 2) (pc' := 160) (L' := [some (.inr (.inr (some 79))), some (.inl p1), some (.inl p2), some (.inl l75_3)]) (st' := [.inl p2, .inr (.inr (some 79))]) (w' := (SH, (u2 (u2 (u2 dt172 79 12 0) 79 19 (dt172 79 17)) 79 21 (dt172 79 18)))) (fun _ => rfl) ?_
                  refine go_call (Q' := _) rfl rfl rfl rfl rfl (sp_X6_keeps_k1 L xs sio (d + 37) (u2 (u2 (u2 dt172 79 12 0) 79 19 (dt172 79 17)) 79 21 (dt172 79 18)) hI233 hM_dt172  p2 ⟨by omega, by omega⟩ (by first | trivial | omega | exact hI4 (by omega) (by omega) | exact hI5 (by omega) (by omega)) (by first | trivial | omega | exact hI4 (by omega) (by omega) | exact hI5 (by omega) (by omega)) (by first | trivial | omega | exact hI4 (by omega) (by omega) | exact hI5 (by omega) (by omega)) (by first | trivial | omega | exact hI4 (by omega) (by omega) | exact hI5 (by omega) (by omega))) ?_
                  rintro _ _ ⟨dt254, rfl, hI255, hF256, h253⟩
                  refine ⟨rfl, ?_⟩
                  have hF257 : Fr [79, 80, 82, 83, 84] dt dt254 := Fr_tr hF234 hF256 (by decide)
                  have w258 : dt254 79 2 = (u2 (u2 (u2 dt172 79 12 0) 79 19 (dt172 79 17)) 79 21 (dt172 79 18)) 79 2 := hF256 79 (by decide) 2
                  have w259 : dt254 79 9 = (u2 (u2 (u2 dt172 79 12 0) 79 19 (dt172 79 17)) 79 21 (dt172 79 18)) 79 9 := hF256 79 (by decide) 9
                  have w260 : dt254 79 10 = (u2 (u2 (u2 dt172 79 12 0) 79 19 (dt172 79 17)) 79 21 (dt172 79 18)) 79 10 := hF256 79 (by decide) 10
                  have w261 : dt254 79 11 = (u2 (u2 (u2 dt172 79 12 0) 79 19 (dt172 79 17)) 79 21 (dt172 79 18)) 79 11 := hF256 79 (by decide) 11
                  have w262 : dt254 79 12 = (u2 (u2 (u2 dt172 79 12 0) 79 19 (dt172 79 17)) 79 21 (dt172 79 18)) 79 12 := hF256 79 (by decide) 12
                  have w263 : dt254 79 13 = (u2 (u2 (u2 dt172 79 12 0) 79 19 (dt172 79 17)) 79 21 (dt172 79 18)) 79 13 := hF256 79 (by decide) 13
                  have w264 : dt254 79 14 = (u2 (u2 (u2 dt172 79 12 0) 79 19 (dt172 79 17)) 79 21 (dt172 79 18)) 79 14 := hF256 79 (by decide) 14
                  have w265 : dt254 79 15 = (u2 (u2 (u2 dt172 79 12 0) 79 19 (dt172 79 17)) 79 21 (dt172 79 18)) 79 15 := hF256 79 (by decide) 15
                  have w266 : dt254 79 16 = (u2 (u2 (u2 dt172 79 12 0) 79 19 (dt172 79 17)) 79 21 (dt172 79 18)) 79 16 := hF256 79 (by decide) 16
                  have w267 : dt254 79 20 = (u2 (u2 (u2 dt172 79 12 0) 79 19 (dt172 79 17)) 79 21 (dt172 79 18)) 79 20 := hF256 79 (by decide) 20
                  have E84268 : dt254 84 = dt172 84 := (funext (hF256 84 (by decide))).trans E84251
                  rcases h253 with ⟨rfl, h253⟩
                  have hM269 : MW (dt254 80) := h253.1
                  obtain ⟨h253_0, h253_1, h253_2, h253_3, h253_4, h253_5, h253_6⟩ := h253
                  have r270 : 0 ≤ dt254 79 10 ∧ dt254 79 10 ≤ 24 := InvC_get hI255 79 10 rfl rfl
                  refine go_ret (k := 3) (r := some (.inl (dt254 79 10))) (w1 := (SH, dt254)) (fun _ => rfl) ?_
                  exact ⟨dt254, rfl, hI255, hF257, ⟨_, rfl, ⟨by omega, by omega⟩, ⟨by first | trivial | omega, by first | trivial | omega, by first | assumption | exact hM, by first | trivial | omega, by first | trivial | omega, by first | trivial | omega, by first | trivial | omega, by first | trivial | omega, by first | trivial | omega⟩⟩⟩
                · skip
                  refine go_ret (k := 2) (r := some (.inl (-1))) (w1 := (SH, (u2 (u2 (u2 dt172 79 12 0) 79 19 (dt172 79 17)) 79 21 (dt172 79 18)))) (fun _ => rfl) ?_
                  exact ⟨(u2 (u2 (u2 dt172 79 12 0) 79 19 (dt172 79 17)) 79 21 (dt172 79 18)), rfl, hI233, hF234, ⟨_, rfl, ⟨by omega, by omega⟩, ⟨by first | trivial | omega, by first | trivial | omega, by first | assumption | exact hM, by first | trivial | omega, by first | trivial | omega, by first | trivial | omega, by first | trivial | omega, by first | trivial | omega, by first | trivial | omega⟩⟩⟩
              · skip
                refine go_to (k := 2) (pc' := 149) (L' := [some (.inr (.inr (some 79))), some (.inl p1), some (.inl p2), some (.inl l75_3)]) (st' := [.inl (-1), .inr (.inr (some 79))]) (w' := (SH, (u2 (u2 dt172 79 12 0) 79 19 (dt172 79 17)))) (fun _ => rfl) ?_
                have hI271 : InvC (u2 (u2 (u2 dt172 79 12 0) 79 19 (dt172 79 17)) 79 21 (-1)) := InvC_u2 hI212 (lo := -2147483648) (hi := 2147483647) rfl rfl rfl (by omega) (by omega)
                have hF272 : Fr [79, 80, 82, 83, 84] dt (u2 (u2 (u2 dt172 79 12 0) 79 19 (dt172 79 17)) 79 21 (-1)) := Fr_u2 hF213 (by decide)
                have w273 : (u2 (u2 (u2 dt172 79 12 0) 79 19 (dt172 79 17)) 79 21 (-1)) 79 2 = (u2 (u2 dt172 79 12 0) 79 19 (dt172 79 17)) 79 2 := rfl
                have w274 : (u2 (u2 (u2 dt172 79 12 0) 79 19 (dt172 79 17)) 79 21 (-1)) 79 9 = (u2 (u2 dt172 79 12 0) 79 19 (dt172 79 17)) 79 9 := rfl
                have w275 : (u2 (u2 (u2 dt172 79 12 0) 79 19 (dt172 79 17)) 79 21 (-1)) 79 10 = (u2 (u2 dt172 79 12 0) 79 19 (dt172 79 17)) 79 10 := rfl
                have w276 : (u2 (u2 (u2 dt172 79 12 0) 79 19 (dt172 79 17)) 79 21 (-1)) 79 11 = (u2 (u2 dt172 79 12 0) 79 19 (dt172 79 17)) 79 11 := rfl
                have w277 : (u2 (u2 (u2 dt172 79 12 0) 79 19 (dt172 79 17)) 79 21 (-1)) 79 12 = (u2 (u2 dt172 79 12 0) 79 19 (dt172 79 17)) 79 12 := rfl
                have w278 : (u2 (u2 (u2 dt172 79 12 0) 79 19 (dt172 79 17)) 79 21 (-1)) 79 13 = (u2 (u2 dt172 79 12 0) 79 19 (dt172 79 17)) 79 13 := rfl
                have w279 : (u2 (u2 (u2 dt172 79 12 0) 79 19 (dt172 79 17)) 79 21 (-1)) 79 14 = (u2 (u2 dt172 79 12 0) 79 19 (dt172 79 17)) 79 14 := rfl
                have w280 : (u2 (u2 (u2 dt172 79 12 0) 79 19 (dt172 79 17)) 79 21 (-1)) 79 15 = (u2 (u2 dt172 79 12 0) 79 19 (dt172 79 17)) 79 15 := rfl
                have w281 : (u2 (u2 (u2 dt172 79 12 0) 79 19 (dt172 79 17)) 79 21 (-1)) 79 16 = (u2 (u2 dt172 79 12 0) 79 19 (dt172 79 17)) 79 16 := rfl
                have w282 : (u2 (u2 (u2 dt172 79 12 0) 79 19 (dt172 79 17)) 79 21 (-1)) 79 20 = (u2 (u2 dt172 79 12 0) 79 19 (dt172 79 17)) 79 20 := rfl
                have w283 : (u2 (u2 (u2 dt172 79 12 0) 79 19 (dt172 79 17)) 79 21 (-1)) 80 0 = (u2 (u2 dt172 79 12 0) 79 19 (dt172 79 17)) 80 0 := rfl
                have w284 : (u2 (u2 (u2 dt172 79 12 0) 79 19 (dt172 79 17)) 79 21 (-1)) 80 1 = (u2 (u2 dt172 79 12 0) 79 19 (dt172 79 17)) 80 1 := rfl
                have w285 : (u2 (u2 (u2 dt172 79 12 0) 79 19 (dt172 79 17)) 79 21 (-1)) 80 2 = (u2 (u2 dt172 79 12 0) 79 19 (dt172 79 17)) 80 2 := rfl
                have w286 : (u2 (u2 (u2 dt172 79 12 0) 79 19 (dt172 79 17)) 79 21 (-1)) 80 3 = (u2 (u2 dt172 79 12 0) 79 19 (dt172 79 17)) 80 3 := rfl
                have w287 : (u2 (u2 (u2 dt172 79 12 0) 79 19 (dt172 79 17)) 79 21 (-1)) 80 4 = (u2 (u2 dt172 79 12 0) 79 19 (dt172 79 17)) 80 4 := rfl
                have w288 : (u2 (u2 (u2 dt172 79 12 0) 79 19 (dt172 79 17)) 79 21 (-1)) 80 5 = (u2 (u2 dt172 79 12 0) 79 19 (dt172 79 17)) 80 5 := rfl
                have E84289 : (u2 (u2 (u2 dt172 79 12 0) 79 19 (dt172 79 17)) 79 21 (-1)) 84 = dt172 84 := (funext fun _ => u2_ne (by omega)).trans E84230
                refine go_smp (L' := [some (.inr (.inr (some 79))), some (.inl p1), some (.inl p2), some (.inl l75_3)]) (st' := []) (w' := (SH, (u2 (u2 (u2 dt172 79 12 0) 79 19 (dt172 79 17)) 79 21 (-1)))) rfl rfl (s_pf rfl rfl rfl rfl ⟨by omega, by omega⟩) ?_
                refine go_if (k := 2) (p1 := 158) (p2 := 156) (L' := [some (.inr (.inr (some 79))), some (.inl p1), some (.inl p2), some (.inl l75_3)]) (st' := []) (w' := (SH, (u2 (u2 (u2 dt172 79 12 0) 79 19 (dt172 79 17)) 79 21 (-1)))) (fun _ => rfl) (z_ne (a := l75_3) ⟨by omega, by omega⟩) (fun c290 => ?_) (fun c290 => ?_)
                · skip
                  refine go_to (k := 2) (pc' := 160) (L' := [some (.inr (.inr (some 79))), some (.inl p1), some (.inl p2), some (.inl l75_3)]) (st' := [.inl p2, .inr (.inr (some 79))]) (w' := (SH, (u2 (u2 (u2 dt172 79 12 0) 79 19 (dt172 79 17)) 79 21 (-1)))) (fun _ => rfl) ?_
                  refine go_call (Q' := _) rfl rfl rfl rfl rfl (sp_X6_keeps_k1 L xs sio (d + 37) (u2 (u2 (u2 dt172 79 12 0) 79 19 (dt172 79 17)) 79 21 (-1)) hI271 hM_dt172  p2 ⟨by omega, by omega⟩ (by first | trivial | omega | exact hI4 (by omega) (by omega) | exact hI5 (by omega) (by omega)) (by first | trivial | omega | exact hI4 (by omega) (by omega) | exact hI5 (by omega) (by omega)) (by first | trivial | omega | exact hI4 (by omega) (by omega) | exact hI5 (by omega) (by omega)) (by first | trivial | omega | exact hI4 (by omega) (by omega) | exact hI5 (by omega) (by omega))) ?_
                  rintro _ _ ⟨dt292, rfl, hI293, hF294, h291⟩
                  refine ⟨rfl, ?_⟩
                  have hF295 : Fr [79, 80, 82, 83, 84] dt dt292 := Fr_tr hF272 hF294 (by decide)
                  have w296 : dt292 79 2 = (u2 (u2 (u2 dt172 79 12 0) 79 19 (dt172 79 17)) 79 21 (-1)) 79 2 := hF294 79 (by decide) 2
                  have w297 : dt292 79 9 = (u2 (u2 (u2 dt172 79 12 0) 79 19 (dt172 79 17)) 79 21 (-1)) 79 9 := hF294 79 (by decide) 9
                  have w298 : dt292 79 10 = (u2 (u2 (u2 dt172 79 12 0) 79 19 (dt172 79 17)) 79 21 (-1)) 79 10 := hF294 79 (by decide) 10
                  have w299 : dt292 79 11 = (u2 (u2 (u2 dt172 79 12 0) 79 19 (dt172 79 17)) 79 21 (-1)) 79 11 := hF294 79 (by decide) 11
                  have w300 : dt292 79 12 = (u2 (u2 (u2 dt172 79 12 0) 79 19 (dt172 79 17)) 79 21 (-1)) 79 12 := hF294 79 (by decide) 12
                  have w301 : dt292 79 13 = (u2 (u2 (u2 dt172 79 12 0) 79 19 (dt172 79 17)) 79 21 (-1)) 79 13 := hF294 79 (by decide) 13
                  have w302 : dt292 79 14 = (u2 (u2 (u2 dt172 79 12 0) 79 19 (dt172 79 17)) 79 21 (-1)) 79 14 := hF294 79 (by decide) 14
                  have w303 : dt292 79 15 = (u2 (u2 (u2 dt172 79 12 0) 79 19 (dt172 79 17)) 79 21 (-1)) 79 15 := hF294 79 (by decide) 15
                  have w304 : dt292 79 16 = (u2 (u2 (u2 dt172 79 12 0) 79 19 (dt172 79 17)) 79 21 (-1)) 79 16 := hF294 79 (by decide) 16
                  have w305 : dt292 79 20 = (u2 (u2 (u2 dt172 79 12 0) 79 19 (dt172 79 17)) 79 21 (-1)) 79 20 := hF294 79 (by decide) 20
                  have E84306 : dt292 84 = dt172 84 := (funext (hF294 84 (by decide))).trans E84289
                  rcases h291 with ⟨rfl, h291⟩
                  have hM307 : MW (dt292 80) := h291.1
                  obtain ⟨h291_0, h291_1, h291_2, h291_3, h291_4, h291_5, h291_6⟩ := h291
                  have r308 : 0 ≤ dt292 79 10 ∧ dt292 79 10 ≤ 24 := InvC_get hI293 79 10 rfl rfl
                  refine go_ret (k := 3) (r := some (.inl (dt292 79 10))) (w1 := (SH, dt292)) (fun _ => rfl) ?_
                  exact ⟨dt292, rfl, hI293, hF295, ⟨_, rfl, ⟨by omega, by omega⟩, ⟨by first | trivial | omega, by first | trivial | omega, by first | assumption | exact hM, by first | trivial | omega, by first | trivial | omega, by first | trivial | omega, by first | trivial | omega, by first | trivial | omega, by first | trivial | omega⟩⟩⟩
                · exfalso; omega
            · skip
              have r309 : (-2147483648) ≤ dt172 79 14 ∧ dt172 79 14 ≤ 2147483647 := InvC_get hI173 79 14 rfl rfl
              refine go_if (k := 3) (p1 := 123) (p2 := 86) (L' := [some (.inr (.inr (some 79))), some (.inl p1), some (.inl p2), some (.inl l75_3)]) (st' := []) (w' := (SH, dt172)) (fun _ => rfl) (z_eq (a := dt172 79 14) ⟨by omega, by omega⟩) (fun c310 => ?_) (fun c310 => ?_)
              · skip
                refine go_to (k := 2) (pc' := 125) (L' := [some (.inr (.inr (some 79))), some (.inl p1), some (.inl p2), some (.inl l75_3)]) (st' := [.inl 0, .inr (.inr (some 79))]) (w' := (SH, dt172)) (fun _ => rfl) ?_
                have hI311 : InvC (u2 dt172 79 12 0) := InvC_u2 hI173 (lo := 0) (hi := 500) rfl rfl rfl (by omega) (by omega)
                have hF312 : Fr [79, 80, 82, 83, 84] dt (u2 dt172 79 12 0) := Fr_u2 hF174 (by decide)
                have w313 : (u2 dt172 79 12 0) 79 2 = dt172 79 2 := rfl
                have w314 : (u2 dt172 79 12 0) 79 9 = dt172 79 9 := rfl
                have w315 : (u2 dt172 79 12 0) 79 10 = dt172 79 10 := rfl
                have w316 : (u2 dt172 79 12 0) 79 11 = dt172 79 11 := rfl
                have w317 : (u2 dt172 79 12 0) 79 12 = 0 := rfl
                have w318 : (u2 dt172 79 12 0) 79 13 = dt172 79 13 := rfl
                have w319 : (u2 dt172 79 12 0) 79 14 = dt172 79 14 := rfl
                have w320 : (u2 dt172 79 12 0) 79 15 = dt172 79 15 := rfl
                have w321 : (u2 dt172 79 12 0) 79 16 = dt172 79 16 := rfl
                have w322 : (u2 dt172 79 12 0) 79 20 = dt172 79 20 := rfl
                have w323 : (u2 dt172 79 12 0) 80 0 = dt172 80 0 := rfl
                have w324 : (u2 dt172 79 12 0) 80 1 = dt172 80 1 := rfl
                have w325 : (u2 dt172 79 12 0) 80 2 = dt172 80 2 := rfl
                have w326 : (u2 dt172 79 12 0) 80 3 = dt172 80 3 := rfl
                have w327 : (u2 dt172 79 12 0) 80 4 = dt172 80 4 := rfl
                have w328 : (u2 dt172 79 12 0) 80 5 = dt172 80 5 := rfl
                have E84329 : (u2 dt172 79 12 0) 84 = dt172 84 := funext fun _ => u2_ne (by omega)
                refine go_smp (L' := [some (.inr (.inr (some 79))), some (.inl p1), some (.inl p2), some (.inl l75_3)]) (st' := []) (w' := (SH, (u2 dt172 79 12 0))) rfl rfl (s_pf rfl rfl rfl rfl ⟨by omega, by omega⟩) ?_
                have r330 : (-2147483648) ≤ dt172 79 17 ∧ dt172 79 17 ≤ 2147483647 := InvC_get hI173 79 17 rfl rfl
                refine go_to (k := 3) (pc' := 133) (L' := [some (.inr (.inr (some 79))), some (.inl p1), some (.inl p2), some (.inl l75_3)]) (st' := [.inl (dt172 79 17), .inr (.inr (some 79))]) (w' := (SH, (u2 dt172 79 12 0))) (fun _ => rfl) ?_
                have hI331 : InvC (u2 (u2 dt172 79 12 0) 79 19 (dt172 79 17)) := InvC_u2 hI311 (lo := -2147483648) (hi := 2147483647) rfl rfl rfl (by omega) (by omega)
                have hF332 : Fr [79, 80, 82, 83, 84] dt (u2 (u2 dt172 79 12 0) 79 19 (dt172 79 17)) := Fr_u2 hF312 (by decide)
                have w333 : (u2 (u2 dt172 79 12 0) 79 19 (dt172 79 17)) 79 2 = (u2 dt172 79 12 0) 79 2 := rfl
                have w334 : (u2 (u2 dt172 79 12 0) 79 19 (dt172 79 17)) 79 9 = (u2 dt172 79 12 0) 79 9 := rfl
                have w335 : (u2 (u2 dt172 79 12 0) 79 19 (dt172 79 17)) 79 10 = (u2 dt172 79 12 0) 79 10 := rfl
                have w336 : (u2 (u2 dt172 79 12 0) 79 19 (dt172 79 17)) 79 11 = (u2 dt172 79 12 0) 79 11 := rfl
                have w337 : (u2 (u2 dt172 79 12 0) 79 19 (dt172 79 17)) 79 12 = (u2 dt172 79 12 0) 79 12 := rfl
                have w338 : (u2 (u2 dt172 79 12 0) 79 19 (dt172 79 17)) 79 13 = (u2 dt172 79 12 0) 79 13 := rfl
                have w339 : (u2 (u2 dt172 79 12 0) 79 19 (dt172 79 17)) 79 14 = (u2 dt172 79 12 0) 79 14 := rfl
                have w340 : (u2 (u2 dt172 79 12 0) 79 19 (dt172 79 17)) 79 15 = (u2 dt172 79 12 0) 79 15 := rfl
                have w341 : (u2 (u2 dt172 79 12 0) 79 19 (dt172 79 17)) 79 16 = (u2 dt172 79 12 0) 79 16 := rfl
                have w342 : (u2 (u2 dt172 79 12 0) 79 19 (dt172 79 17)) 79 20 = (u2 dt172 79 12 0) 79 20 := rfl
                have w343 : (u2 (u2 dt172 79 12 0) 79 19 (dt172 79 17)) 80 0 = (u2 dt172 79 12 0) 80 0 := rfl
                have w344 : (u2 (u2 dt172 79 12 0) 79 19 (dt172 79 17)) 80 1 = (u2 dt172 79 12 0) 80 1 := rfl
                have w345 : (u2 (u2 dt172 79 12 0) 79 19 (dt172 79 17)) 80 2 = (u2 dt172 79 12 0) 80 2 := rfl
                have w346 : (u2 (u2 dt172 79 12 0) 79 19 (dt172 79 17)) 80 3 = (u2 dt172 79 12 0) 80 3 := rfl
                have w347 : (u2 (u2 dt172 79 12 0) 79 19 (dt172 79 17)) 80 4 = (u2 dt172 79 12 0) 80 4 := rfl
                have w348 : (u2 (u2 dt172 79 12 0) 79 19 (dt172 79 17)) 80 5 = (u2 dt172 79 12 0) 80 5 := rfl
                have E84349 : (u2 (u2 dt172 79 12 0) 79 19 (dt172 79 17)) 84 = dt172 84 := (funext fun _ => u2_ne (by omega)).trans E84329
                refine go_smp (L' := [some (.inr (.inr (some 79))), some (.inl p1), some (.inl p2), some (.inl l75_3)]) (st' := []) (w' := (SH, (u2 (u2 dt172 79 12 0) 79 19 (dt172 79 17)))) rfl rfl (s_pf rfl rfl rfl rfl ⟨by omega, by omega⟩) ?_
                refine go_if (k := 3) (p1 := 145) (p2 := 141) (L' := [some (.inr (.inr (some 79))), some (.inl p1), some (.inl p2), some (.inl l75_3)]) (st' := [.inr (.inr (some 79))]) (w' := (SH, (u2 (u2 dt172 79 12 0) 79 19 (dt172 79 17)))) (fun _ => rfl) (z_eq (a := l75_3) ⟨by omega, by omega⟩) (fun c350 => ?_) (fun c350 => ?_)
                · exfalso; omega
                · skip
                  refine go_to (k := 2) (pc' := 149) (L' := [some (.inr (.inr (some 79))), some (.inl p1), some (.inl p2), some (.inl l75_3)]) (st' := [.inl (-1), .inr (.inr (some 79))]) (w' := (SH, (u2 (u2 dt172 79 12 0) 79 19 (dt172 79 17)))) (fun _ => rfl) ?_
                  have hI351 : InvC (u2 (u2 (u2 dt172 79 12 0) 79 19 (dt172 79 17)) 79 21 (-1)) := InvC_u2 hI331 (lo := -2147483648) (hi := 2147483647) rfl rfl rfl (by omega) (by omega)
                  have hF352 : Fr [79, 80, 82, 83, 84] dt (u2 (u2 (u2 dt172 79 12 0) 79 19 (dt172 79 17)) 79 21 (-1)) := Fr_u2 hF332 (by decide)
                  have w353 : (u2 (u2 (u2 dt172 79 12 0) 79 19 (dt172 79 17)) 79 21 (-1)) 79 2 = (u2 (u2 dt172 79 12 0) 79 19 (dt172 79 17)) 79 2 := rfl
                  have w354 : (u2 (u2 (u2 dt172 79 12 0) 79 19 (dt172 79 17)) 79 21 (-1)) 79 9 = (u2 (u2 dt172 79 12 0) 79 19 (dt172 79 17)) 79 9 := rfl
                  have w355 : (u2 (u2 (u2 dt172 79 12 0) 79 19 (dt172 79 17)) 79 21 (-1)) 79 10 = (u2 (u2 dt172 79 12 0) 79 19 (dt172 79 17)) 79 10 := rfl
                  have w356 : (u2 (u2 (u2 dt172 79 12 0) 79 19 (dt172 79 17)) 79 21 (-1)) 79 11 = (u2 (u2 dt172 79 12 0) 79 19 (dt172 79 17)) 79 11 := rfl
                  have w357 : (u2 (u2 (u2 dt172 79 12 0) 79 19 (dt172 79 17)) 79 21 (-1)) 79 12 = (u2 (u2 dt172 79 12 0) 79 19 (dt172 79 17)) 79 12 := rfl
                  have w358 : (u2 (u2 (u2 dt172 79 12 0) 79 19 (dt172 79 17)) 79 21 (-1)) 79 13 = (u2 (u2 dt172 79 12 0) 79 19 (dt172 79 17)) 79 13 := rfl
                  have w359 : (u2 (u2 (u2 dt172 79 12 0) 79 19 (dt172 79 17)) 79 21 (-1)) 79 14 = (u2 (u2 dt172 79 12 0) 79 19 (dt172 79 17)) 79 14 := rfl
                  have w360 : (u2 (u2 (u2 dt172 79 12 0) 79 19 (dt172 79 17)) 79 21 (-1)) 79 15 = (u2 (u2 dt172 79 12 0) 79 19 (dt172 79 17)) 79 15 := rfl
                  have w361 : (u2 (u2 (u2 dt172 79 12 0) 79 19 (dt172 79 17)) 79 21 (-1)) 79 16 = (u2 (u2 dt172 79 12 0) 79 19 (dt172 79 17)) 79 16 := rfl
                  have w362 : (u2 (u2 (u2 dt172 79 12 0) 79 19 (dt172 79 17)) 79 21 (-1)) 79 20 = (u2 (u2 dt172 79 12 0) 79 19 (dt172 79 17)) 79 20 := rfl
                  have w363 : (u2 (u2 (u2 dt172 79 12 0) 79 19 (dt172 79 17)) 79 21 (-1)) 80 0 = (u2 (u2 dt172 79 12 0) 79 19 (dt172 79 17)) 80 0 := rfl
                  have w364 : (u2 (u2 (u2 dt172 79 12 0) 79 19 (dt172 79 17)) 79 21 (-1)) 80 1 = (u2 (u2 dt172 79 12 0) 79 19 (dt172 79 17)) 80 1 := rfl
                  have w365 : (u2 (u2 (u2 dt172 79 12 0) 79 19 (dt172 79 17)) 79 21 (-1)) 80 2 = (u2 (u2 dt172 79 12 0) 79 19 (dt172 79 17)) 80 2 := rfl
                  have w366 : (u2 (u2 (u2 dt172 79 12 0) 79 19 (dt172 79 17)) 79 21 (-1)) 80 3 = (u2 (u2 dt172 79 12 0) 79 19 (dt172 79 17)) 80 3 := rfl
                  have w367 : (u2 (u2 (u2 dt172 79 12 0) 79 19 (dt172 79 17)) 79 21 (-1)) 80 4 = (u2 (u2 dt172 79 12 0) 79 19 (dt172 79 17)) 80 4 := rfl
                  have w368 : (u2 (u2 (u2 dt172 79 12 0) 79 19 (dt172 79 17)) 79 21 (-1)) 80 5 = (u2 (u2 dt172 79 12 0) 79 19 (dt172 79 17)) 80 5 := rfl
                  have E84369 : (u2 (u2 (u2 dt172 79 12 0) 79 19 (dt172 79 17)) 79 21 (-1)) 84 = dt172 84 := (funext fun _ => u2_ne (by omega)).trans E84349
                  refine go_smp (L' := [some (.inr (.inr (some 79))), some (.inl p1), some (.inl p2), some (.inl l75_3)]) (st' := []) (w' := (SH, (u2 (u2 (u2 dt172 79 12 0) 79 19 (dt172 79 17)) 79 21 (-1)))) rfl rfl (s_pf rfl rfl rfl rfl ⟨by omega, by omega⟩) ?_
                  refine go_if (k := 2) (p1 := 158) (p2 := 156) (L' := [some (.inr (.inr (some 79))), some (.inl p1), some (.inl p2), some (.inl l75_3)]) (st' := []) (w' := (SH, (u2 (u2 (u2 dt172 79 12 0) 79 19 (dt172 79 17)) 79 21 (-1)))) (fun _ => rfl) (z_ne (a := l75_3) ⟨by omega, by omega⟩) (fun c370 => ?_) (fun c370 => ?_)
                  · skip
                    refine go_to (k := 2) (pc' := 160) (L' := [some (.inr (.inr (some 79))), some (.inl p1), some (.inl p2), some (.inl l75_3)]) (st' := [.inl p2, .inr (.inr (some 79))]) (w' := (SH, (u2 (u2 (u2 dt172 79 12 0) 79 19 (dt172 79 17)) 79 21 (-1)))) (fun _ => rfl) ?_
                    refine go_call (Q' := _) rfl rfl rfl rfl rfl (sp_X6_keeps_k1 L xs sio (d + 37) (u2 (u2 (u2 dt172 79 12 0) 79 19 (dt172 79 17)) 79 21 (-1)) hI351 hM_dt172  p2 ⟨by omega, by omega⟩ (by first | trivial | omega | exact hI4 (by omega) (by omega) | exact hI5 (by omega) (by omega)) (by first | trivial | omega | exact hI4 (by omega) (by omega) | exact hI5 (by omega) (by omega)) (by first | trivial | omega | exact hI4 (by omega) (by omega) | exact hI5 (by omega) (by omega)) (by first | trivial | omega | exact hI4 (by omega) (by omega) | exact hI5 (by omega) (by omega))) ?_
                    rintro _ _ ⟨dt372, rfl, hI373, hF374, h371⟩
                    refine ⟨rfl, ?_⟩
                    have hF375 : Fr [79, 80, 82, 83, 84] dt dt372 := Fr_tr hF352 hF374 (by decide)
                    have w376 : dt372 79 2 = (u2 (u2 (u2 dt172 79 12 0) 79 19 (dt172 79 17)) 79 21 (-1)) 79 2 := hF374 79 (by decide) 2
                    have w377 : dt372 79 9 = (u2 (u2 (u2 dt172 79 12 0) 79 19 (dt172 79 17)) 79 21 (-1)) 79 9 := hF374 79 (by decide) 9
                    have w378 : dt372 79 10 = (u2 (u2 (u2 dt172 79 12 0) 79 19 (dt172 79 17)) 79 21 (-1)) 79 10 := hF374 79 (by decide) 10
                    have w379 : dt372 79 11 = (u2 (u2 (u2 dt172 79 12 0) 79 19 (dt172 79 17)) 79 21 (-1)) 79 11 := hF374 79 (by decide) 11
                    have w380 : dt372 79 12 = (u2 (u2 (u2 dt172 79 12 0) 79 19 (dt172 79 17)) 79 21 (-1)) 79 12 := hF374 79 (by decide) 12
                    have w381 : dt372 79 13 = (u2 (u2 (u2 dt172 79 12 0) 79 19 (dt172 79 17)) 79 21 (-1)) 79 13 := hF374 79 (by decide) 13
                    have w382 : dt372 79 14 = (u2 (u2 (u2 dt172 79 12 0) 79 19 (dt172 79 17)) 79 21 (-1)) 79 14 := hF374 79 (by decide) 14
                    have w383 : dt372 79 15 = (u2 (u2 (u2 dt172 79 12 0) 79 19 (dt172 79 17)) 79 21 (-1)) 79 15 := hF374 79 (by decide) 15
                    have w384 : dt372 79 16 = (u2 (u2 (u2 dt172 79 12 0) 79 19 (dt172 79 17)) 79 21 (-1)) 79 16 := hF374 79 (by decide) 16
                    have w385 : dt372 79 20 = (u2 (u2 (u2 dt172 79 12 0) 79 19 (dt172 79 17)) 79 21 (-1)) 79 20 := hF374 79 (by decide) 20
                    have E84386 : dt372 84 = dt172 84 := (funext (hF374 84 (by decide))).trans E84369
                    rcases h371 with ⟨rfl, h371⟩
                    have hM387 : MW (dt372 80) := h371.1
                    obtain ⟨h371_0, h371_1, h371_2, h371_3, h371_4, h371_5, h371_6⟩ := h371
                    have r388 : 0 ≤ dt372 79 10 ∧ dt372 79 10 ≤ 24 := InvC_get hI373 79 10 rfl rfl
                    refine go_ret (k := 3) (r := some (.inl (dt372 79 10))) (w1 := (SH, dt372)) (fun _ => rfl) ?_
                    exact ⟨dt372, rfl, hI373, hF375, ⟨_, rfl, ⟨by omega, by omega⟩, ⟨by first | trivial | omega, by first | trivial | omega, by first | assumption | exact hM, by first | trivial | omega, by first | trivial | omega, by first | trivial | omega, by first | trivial | omega, by first | trivial | omega, by first | trivial | omega⟩⟩⟩
                  · exfalso; omega
              · skip
                refine go_if (k := 2) (p1 := 97) (p2 := 90) (L' := [some (.inr (.inr (some 79))), some (.inl p1), some (.inl p2), some (.inl l75_3)]) (st' := []) (w' := (SH, dt172)) (fun _ => rfl) (z_ne (a := p1) ⟨by omega, by omega⟩) (fun c389 => ?_) (fun c389 => ?_)
                · skip
                  refine go_to (k := 1) (pc' := 98) (L' := [some (.inr (.inr (some 79))), some (.inl p1), some (.inl p2), some (.inl l75_3)]) (st' := [.inr (.inr (some 79))]) (w' := (SH, dt172)) (fun _ => rfl) ?_
                  refine go_call (Q' := _) rfl rfl rfl rfl rfl (sp_X6_aLine L xs sio (d + 0) dt172 hI173   (by first | trivial | omega | exact hI4 (by omega) (by omega) | exact hI5 (by omega) (by omega)) (by first | trivial | omega | exact hI4 (by omega) (by omega) | exact hI5 (by omega) (by omega)) (by first | trivial | omega | exact hI4 (by omega) (by omega) | exact hI5 (by omega) (by omega))) ?_
                  rintro _ _ ⟨dt391, rfl, hI392, hF393, h390⟩
                  refine ⟨rfl, ?_⟩
                  have hF394 : Fr [79, 80, 82, 83, 84] dt dt391 := Fr_tr hF174 hF393 (by decide)
                  have hM395 : MW (dt391 80) := MW_fr hM_dt172 hF393 (by decide)
                  have w396 : dt391 80 0 = dt172 80 0 := hF393 80 (by decide) 0
                  have w397 : dt391 80 1 = dt172 80 1 := hF393 80 (by decide) 1
                  have w398 : dt391 80 2 = dt172 80 2 := hF393 80 (by decide) 2
                  have w399 : dt391 80 3 = dt172 80 3 := hF393 80 (by decide) 3
                  have w400 : dt391 80 4 = dt172 80 4 := hF393 80 (by decide) 4
                  have w401 : dt391 80 5 = dt172 80 5 := hF393 80 (by decide) 5
                  rcases h390 with ⟨rfl, h390⟩ | ⟨rfl, h390⟩
                  · skip
                    obtain ⟨h390_0, h390_1, h390_2⟩ := h390
                    have r402 : 0 ≤ dt391 79 10 ∧ dt391 79 10 ≤ 24 := InvC_get hI392 79 10 rfl rfl
                    refine go_to (k := 8) (pc' := 117) (L' := [some (.inr (.inr (some 79))), some (.inl p1), some (.inl p2), some (.inl 0)]) (st' := [.inl ((dt391 79 10) + 0), .inr (.inr (some 79))]) (w' := (SH, dt391)) (fun _ => rfl) ?_
                    have hI403 : InvC (u2 dt391 79 10 ((dt391 79 10) + 0)) := InvC_u2 hI392 (lo := 0) (hi := 24) rfl rfl rfl (by omega) (by omega)
                    have hF404 : Fr [79, 80, 82, 83, 84] dt (u2 dt391 79 10 ((dt391 79 10) + 0)) := Fr_u2 hF394 (by decide)
                    have w405 : (u2 dt391 79 10 ((dt391 79 10) + 0)) 79 2 = dt391 79 2 := rfl
                    have w406 : (u2 dt391 79 10 ((dt391 79 10) + 0)) 79 9 = dt391 79 9 := rfl
                    have w407 : (u2 dt391 79 10 ((dt391 79 10) + 0)) 79 10 = (dt391 79 10) + 0 := rfl
                    have w408 : (u2 dt391 79 10 ((dt391 79 10) + 0)) 79 11 = dt391 79 11 := rfl
                    have w409 : (u2 dt391 79 10 ((dt391 79 10) + 0)) 79 12 = dt391 79 12 := rfl
                    have w410 : (u2 dt391 79 10 ((dt391 79 10) + 0)) 79 13 = dt391 79 13 := rfl
                    have w411 : (u2 dt391 79 10 ((dt391 79 10) + 0)) 79 14 = dt391 79 14 := rfl
                    have w412 : (u2 dt391 79 10 ((dt391 79 10) + 0)) 79 15 = dt391 79 15 := rfl
                    have w413 : (u2 dt391 79 10 ((dt391 79 10) + 0)) 79 16 = dt391 79 16 := rfl
                    have w414 : (u2 dt391 79 10 ((dt391 79 10) + 0)) 79 20 = dt391 79 20 := rfl
                    have w415 : (u2 dt391 79 10 ((dt391 79 10) + 0)) 80 0 = dt391 80 0 := rfl
                    have w416 : (u2 dt391 79 10 ((dt391 79 10) + 0)) 80 1 = dt391 80 1 := rfl
                    have w417 : (u2 dt391 79 10 ((dt391 79 10) + 0)) 80 2 = dt391 80 2 := rfl
                    have w418 : (u2 dt391 79 10 ((dt391 79 10) + 0)) 80 3 = dt391 80 3 := rfl
                    have w419 : (u2 dt391 79 10 ((dt391 79 10) + 0)) 80 4 = dt391 80 4 := rfl
                    have w420 : (u2 dt391 79 10 ((dt391 79 10) + 0)) 80 5 = dt391 80 5 := rfl
                    have E84421 : (u2 dt391 79 10 ((dt391 79 10) + 0)) 84 = dt391 84 := funext fun _ => u2_ne (by omega)
                    refine go_smp (L' := [some (.inr (.inr (some 79))), some (.inl p1), some (.inl p2), some (.inl 0)]) (st' := []) (w' := (SH, (u2 dt391 79 10 ((dt391 79 10) + 0)))) rfl rfl (s_pf rfl rfl rfl rfl ⟨by omega, by omega⟩) ?_
                    refine go_to (k := 1) (pc' := 75) (L' := [some (.inr (.inr (some 79))), some (.inl p1), some (.inl p2), some (.inl 0)]) (st' := []) (w' := (SH, (u2 dt391 79 10 ((dt391 79 10) + 0)))) (fun _ => rfl) ?_
                    exact GO.le (ih_loop190 0 (u2 dt391 79 10 ((dt391 79 10) + 0)) hI403 hF404 hM395 (by omega) (by omega) (by omega) (by omega) (by omega) (by intro _ hz; first | omega | exact ARW_0 (by omega) | exact ARW_s (hI4 (by omega) hz) (by omega) (by assumption) (by assumption) (by omega)) (by intro _ hz; first | omega | exact LRW_0 (by omega) | exact LRW_s (hI5 (by omega) hz) (by omega) (by assumption) (by assumption) (by assumption) (by omega) (by omega)) (by omega) (by omega) (by omega) (by omega) (by omega) (by omega) (by omega) (by omega) (by omega)) ⟨.inl rfl, .inl rfl, .inl rfl, .inl rfl, trivial⟩
                  · skip
                    obtain ⟨h390_0, h390_1, h390_2, h390_3, h390_4, h390_5, h390_6, h390_7, h390_8, h390_9, h390_10, h390_11, h390_12⟩ := h390
                    have r422 : 0 ≤ dt391 79 10 ∧ dt391 79 10 ≤ 24 := InvC_get hI392 79 10 rfl rfl
                    refine go_to (k := 9) (pc' := 117) (L' := [some (.inr (.inr (some 79))), some (.inl p1), some (.inl p2), some (.inl 1)]) (st' := [.inl ((dt391 79 10) + 1), .inr (.inr (some 79))]) (w' := (SH, dt391)) (fun _ => rfl) ?_
                    have hI423 : InvC (u2 dt391 79 10 ((dt391 79 10) + 1)) := InvC_u2 hI392 (lo := 0) (hi := 24) rfl rfl rfl (by omega) (by omega)
                    have hF424 : Fr [79, 80, 82, 83, 84] dt (u2 dt391 79 10 ((dt391 79 10) + 1)) := Fr_u2 hF394 (by decide)
                    have w425 : (u2 dt391 79 10 ((dt391 79 10) + 1)) 79 2 = dt391 79 2 := rfl
                    have w426 : (u2 dt391 79 10 ((dt391 79 10) + 1)) 79 9 = dt391 79 9 := rfl
                    have w427 : (u2 dt391 79 10 ((dt391 79 10) + 1)) 79 10 = (dt391 79 10) + 1 := rfl
                    have w428 : (u2 dt391 79 10 ((dt391 79 10) + 1)) 79 11 = dt391 79 11 := rfl
                    have w429 : (u2 dt391 79 10 ((dt391 79 10) + 1)) 79 12 = dt391 79 12 := rfl
                    have w430 : (u2 dt391 79 10 ((dt391 79 10) + 1)) 79 13 = dt391 79 13 := rfl
                    have w431 : (u2 dt391 79 10 ((dt391 79 10) + 1)) 79 14 = dt391 79 14 := rfl
                    have w432 : (u2 dt391 79 10 ((dt391 79 10) + 1)) 79 15 = dt391 79 15 := rfl
                    have w433 : (u2 dt391 79 10 ((dt391 79 10) + 1)) 79 16 = dt391 79 16 := rfl
                    have w434 : (u2 dt391 79 10 ((dt391 79 10) + 1)) 79 20 = dt391 79 20 := rfl
                    have w435 : (u2 dt391 79 10 ((dt391 79 10) + 1)) 80 0 = dt391 80 0 := rfl
                    have w436 : (u2 dt391 79 10 ((dt391 79 10) + 1)) 80 1 = dt391 80 1 := rfl
                    have w437 : (u2 dt391 79 10 ((dt391 79 10) + 1)) 80 2 = dt391 80 2 := rfl
                    have w438 : (u2 dt391 79 10 ((dt391 79 10) + 1)) 80 3 = dt391 80 3 := rfl
                    have w439 : (u2 dt391 79 10 ((dt391 79 10) + 1)) 80 4 = dt391 80 4 := rfl
                    have w440 : (u2 dt391 79 10 ((dt391 79 10) + 1)) 80 5 = dt391 80 5 := rfl
                    have E84441 : (u2 dt391 79 10 ((dt391 79 10) + 1)) 84 = dt391 84 := funext fun _ => u2_ne (by omega)
                    refine go_smp (L' := [some (.inr (.inr (some 79))), some (.inl p1), some (.inl p2), some (.inl 1)]) (st' := []) (w' := (SH, (u2 dt391 79 10 ((dt391 79 10) + 1)))) rfl rfl (s_pf rfl rfl rfl rfl ⟨by omega, by omega⟩) ?_
                    refine go_to (k := 1) (pc' := 75) (L' := [some (.inr (.inr (some 79))), some (.inl p1), some (.inl p2), some (.inl 1)]) (st' := []) (w' := (SH, (u2 dt391 79 10 ((dt391 79 10) + 1)))) (fun _ => rfl) ?_
                    exact GO.le (ih_loop190 1 (u2 dt391 79 10 ((dt391 79 10) + 1)) hI423 hF424 hM395 (by omega) (by omega) (by omega) (by omega) (by omega) (by intro _ hz; first | omega | exact ARW_0 (by omega) | exact ARW_s (hI4 (by omega) hz) (by omega) (by assumption) (by assumption) (by omega)) (by intro _ hz; first | omega | exact LRW_0 (by omega) | exact LRW_s (hI5 (by omega) hz) (by omega) (by assumption) (by assumption) (by assumption) (by omega) (by omega)) (by omega) (by omega) (by omega) (by omega) (by omega) (by omega) (by omega) (by omega) (by omega)) ⟨.inl rfl, .inl rfl, .inl rfl, .inl rfl, trivial⟩
                · exfalso; omega
        exact GO.le (loop190 _ 1 dt103 hI104 hF106 hM107 (by omega) (by omega) (by omega) (by omega) (by omega) (by intro _ hz; first | omega | exact ARW_0 (by omega) | exact ARW_s (hI4 (by omega) hz) (by omega) (by assumption) (by assumption) (by omega)) (by intro _ hz; first | omega | exact LRW_0 (by omega) | exact LRW_s (hI5 (by omega) hz) (by omega) (by assumption) (by assumption) (by assumption) (by omega) (by omega)) (by omega) (by omega) (by omega) (by omega) (by omega) (by omega) (by omega) (by omega) (Nat.lt_succ_self _)) ⟨.inl rfl, .inl rfl, .inl rfl, .inl rfl, trivial⟩
      · skip
        refine go_to (k := 3) (pc' := 34) (L' := [some (.inr (.inr (some 79))), some (.inl p1), some (.inl p2), none]) (st' := [.inl 0, .inr (.inr (some 79))]) (w' := (SH, (u2 dt 79 17 0))) (fun _ => rfl) ?_
        have hI442 : InvC (u2 (u2 dt 79 17 0) 79 12 0) := InvC_u2 hI4 (lo := 0) (hi := 500) rfl rfl rfl (by omega) (by omega)
        have hF443 : Fr [79, 80, 82, 83, 84] dt (u2 (u2 dt 79 17 0) 79 12 0) := Fr_u2 hF5 (by decide)
        have w444 : (u2 (u2 dt 79 17 0) 79 12 0) 79 2 = (u2 dt 79 17 0) 79 2 := rfl
        have w445 : (u2 (u2 dt 79 17 0) 79 12 0) 79 9 = (u2 dt 79 17 0) 79 9 := rfl
        have w446 : (u2 (u2 dt 79 17 0) 79 12 0) 79 10 = (u2 dt 79 17 0) 79 10 := rfl
        have w447 : (u2 (u2 dt 79 17 0) 79 12 0) 79 11 = (u2 dt 79 17 0) 79 11 := rfl
        have w448 : (u2 (u2 dt 79 17 0) 79 12 0) 79 12 = 0 := rfl
        have w449 : (u2 (u2 dt 79 17 0) 79 12 0) 79 13 = (u2 dt 79 17 0) 79 13 := rfl
        have w450 : (u2 (u2 dt 79 17 0) 79 12 0) 79 14 = (u2 dt 79 17 0) 79 14 := rfl
        have w451 : (u2 (u2 dt 79 17 0) 79 12 0) 79 15 = (u2 dt 79 17 0) 79 15 := rfl
        have w452 : (u2 (u2 dt 79 17 0) 79 12 0) 79 16 = (u2 dt 79 17 0) 79 16 := rfl
        have w453 : (u2 (u2 dt 79 17 0) 79 12 0) 79 20 = (u2 dt 79 17 0) 79 20 := rfl
        have w454 : (u2 (u2 dt 79 17 0) 79 12 0) 80 0 = (u2 dt 79 17 0) 80 0 := rfl
        have w455 : (u2 (u2 dt 79 17 0) 79 12 0) 80 1 = (u2 dt 79 17 0) 80 1 := rfl
        have w456 : (u2 (u2 dt 79 17 0) 79 12 0) 80 2 = (u2 dt 79 17 0) 80 2 := rfl
        have w457 : (u2 (u2 dt 79 17 0) 79 12 0) 80 3 = (u2 dt 79 17 0) 80 3 := rfl
        have w458 : (u2 (u2 dt 79 17 0) 79 12 0) 80 4 = (u2 dt 79 17 0) 80 4 := rfl
        have w459 : (u2 (u2 dt 79 17 0) 79 12 0) 80 5 = (u2 dt 79 17 0) 80 5 := rfl
        have E84460 : (u2 (u2 dt 79 17 0) 79 12 0) 84 = dt 84 := (funext fun _ => u2_ne (by omega)).trans E8422
        refine go_smp (L' := [some (.inr (.inr (some 79))), some (.inl p1), some (.inl p2), none]) (st' := []) (w' := (SH, (u2 (u2 dt 79 17 0) 79 12 0))) rfl rfl (s_pf rfl rfl rfl rfl ⟨by omega, by omega⟩) ?_
        refine go_to (k := 2) (pc' := 39) (L' := [some (.inr (.inr (some 79))), some (.inl p1), some (.inl p2), none]) (st' := [.inl 0, .inr (.inr (some 79))]) (w' := (SH, (u2 (u2 dt 79 17 0) 79 12 0))) (fun _ => rfl) ?_
        have hI461 : InvC (u2 (u2 (u2 dt 79 17 0) 79 12 0) 79 19 0) := InvC_u2 hI442 (lo := -2147483648) (hi := 2147483647) rfl rfl rfl (by omega) (by omega)
        have hF462 : Fr [79, 80, 82, 83, 84] dt (u2 (u2 (u2 dt 79 17 0) 79 12 0) 79 19 0) := Fr_u2 hF443 (by decide)
        have w463 : (u2 (u2 (u2 dt 79 17 0) 79 12 0) 79 19 0) 79 2 = (u2 (u2 dt 79 17 0) 79 12 0) 79 2 := rfl
        have w464 : (u2 (u2 (u2 dt 79 17 0) 79 12 0) 79 19 0) 79 9 = (u2 (u2 dt 79 17 0) 79 12 0) 79 9 := rfl
        have w465 : (u2 (u2 (u2 dt 79 17 0) 79 12 0) 79 19 0) 79 10 = (u2 (u2 dt 79 17 0) 79 12 0) 79 10 := rfl
        have w466 : (u2 (u2 (u2 dt 79 17 0) 79 12 0) 79 19 0) 79 11 = (u2 (u2 dt 79 17 0) 79 12 0) 79 11 := rfl
        have w467 : (u2 (u2 (u2 dt 79 17 0) 79 12 0) 79 19 0) 79 12 = (u2 (u2 dt 79 17 0) 79 12 0) 79 12 := rfl
        have w468 : (u2 (u2 (u2 dt 79 17 0) 79 12 0) 79 19 0) 79 13 = (u2 (u2 dt 79 17 0) 79 12 0) 79 13 := rfl
        have w469 : (u2 (u2 (u2 dt 79 17 0) 79 12 0) 79 19 0) 79 14 = (u2 (u2 dt 79 17 0) 79 12 0) 79 14 := rfl
        have w470 : (u2 (u2 (u2 dt 79 17 0) 79 12 0) 79 19 0) 79 15 = (u2 (u2 dt 79 17 0) 79 12 0) 79 15 := rfl
        have w471 : (u2 (u2 (u2 dt 79 17 0) 79 12 0) 79 19 0) 79 16 = (u2 (u2 dt 79 17 0) 79 12 0) 79 16 := rfl
        have w472 : (u2 (u2 (u2 dt 79 17 0) 79 12 0) 79 19 0) 79 20 = (u2 (u2 dt 79 17 0) 79 12 0) 79 20 := rfl
        have w473 : (u2 (u2 (u2 dt 79 17 0) 79 12 0) 79 19 0) 80 0 = (u2 (u2 dt 79 17 0) 79 12 0) 80 0 := rfl
        have w474 : (u2 (u2 (u2 dt 79 17 0) 79 12 0) 79 19 0) 80 1 = (u2 (u2 dt 79 17 0) 79 12 0) 80 1 := rfl
        have w475 : (u2 (u2 (u2 dt 79 17 0) 79 12 0) 79 19 0) 80 2 = (u2 (u2 dt 79 17 0) 79 12 0) 80 2 := rfl
        have w476 : (u2 (u2 (u2 dt 79 17 0) 79 12 0) 79 19 0) 80 3 = (u2 (u2 dt 79 17 0) 79 12 0) 80 3 := rfl
        have w477 : (u2 (u2 (u2 dt 79 17 0) 79 12 0) 79 19 0) 80 4 = (u2 (u2 dt 79 17 0) 79 12 0) 80 4 := rfl
        have w478 : (u2 (u2 (u2 dt 79 17 0) 79 12 0) 79 19 0) 80 5 = (u2 (u2 dt 79 17 0) 79 12 0) 80 5 := rfl
        have E84479 : (u2 (u2 (u2 dt 79 17 0) 79 12 0) 79 19 0) 84 = dt 84 := (funext fun _ => u2_ne (by omega)).trans E84460
        refine go_smp (L' := [some (.inr (.inr (some 79))), some (.inl p1), some (.inl p2), none]) (st' := []) (w' := (SH, (u2 (u2 (u2 dt 79 17 0) 79 12 0) 79 19 0))) rfl rfl (s_pf rfl rfl rfl rfl ⟨by omega, by omega⟩) ?_
        refine go_to (k := 2) (pc' := 44) (L' := [some (.inr (.inr (some 79))), some (.inl p1), some (.inl p2), none]) (st' := [.inl (-1), .inr (.inr (some 79))]) (w' := (SH, (u2 (u2 (u2 dt 79 17 0) 79 12 0) 79 19 0))) (fun _ => rfl) ?_
        have hI480 : InvC (u2 (u2 (u2 (u2 dt 79 17 0) 79 12 0) 79 19 0) 79 21 (-1)) := InvC_u2 hI461 (lo := -2147483648) (hi := 2147483647) rfl rfl rfl (by omega) (by omega)
        have hF481 : Fr [79, 80, 82, 83, 84] dt (u2 (u2 (u2 (u2 dt 79 17 0) 79 12 0) 79 19 0) 79 21 (-1)) := Fr_u2 hF462 (by decide)
        have w482 : (u2 (u2 (u2 (u2 dt 79 17 0) 79 12 0) 79 19 0) 79 21 (-1)) 79 2 = (u2 (u2 (u2 dt 79 17 0) 79 12 0) 79 19 0) 79 2 := rfl
        have w483 : (u2 (u2 (u2 (u2 dt 79 17 0) 79 12 0) 79 19 0) 79 21 (-1)) 79 9 = (u2 (u2 (u2 dt 79 17 0) 79 12 0) 79 19 0) 79 9 := rfl
        have w484 : (u2 (u2 (u2 (u2 dt 79 17 0) 79 12 0) 79 19 0) 79 21 (-1)) 79 10 = (u2 (u2 (u2 dt 79 17 0) 79 12 0) 79 19 0) 79 10 := rfl
        have w485 : (u2 (u2 (u2 (u2 dt 79 17 0) 79 12 0) 79 19 0) 79 21 (-1)) 79 11 = (u2 (u2 (u2 dt 79 17 0) 79 12 0) 79 19 0) 79 11 := rfl
        have w486 : (u2 (u2 (u2 (u2 dt 79 17 0) 79 12 0) 79 19 0) 79 21 (-1)) 79 12 = (u2 (u2 (u2 dt 79 17 0) 79 12 0) 79 19 0) 79 12 := rfl
        have w487 : (u2 (u2 (u2 (u2 dt 79 17 0) 79 12 0) 79 19 0) 79 21 (-1)) 79 13 = (u2 (u2 (u2 dt 79 17 0) 79 12 0) 79 19 0) 79 13 := rfl
        have w488 : (u2 (u2 (u2 (u2 dt 79 17 0) 79 12 0) 79 19 0) 79 21 (-1)) 79 14 = (u2 (u2 (u2 dt 79 17 0) 79 12 0) 79 19 0) 79 14 := rfl
        have w489 : (u2 (u2 (u2 (u2 dt 79 17 0) 79 12 0) 79 19 0) 79 21 (-1)) 79 15 = (u2 (u2 (u2 dt 79 17 0) 79 12 0) 79 19 0) 79 15 := rfl
        have w490 : (u2 (u2 (u2 (u2 dt 79 17 0) 79 12 0) 79 19 0) 79 21 (-1)) 79 16 = (u2 (u2 (u2 dt 79 17 0) 79 12 0) 79 19 0) 79 16 := rfl
        have w491 : (u2 (u2 (u2 (u2 dt 79 17 0) 79 12 0) 79 19 0) 79 21 (-1)) 79 20 = (u2 (u2 (u2 dt 79 17 0) 79 12 0) 79 19 0) 79 20 := rfl
        have w492 : (u2 (u2 (u2 (u2 dt 79 17 0) 79 12 0) 79 19 0) 79 21 (-1)) 80 0 = (u2 (u2 (u2 dt 79 17 0) 79 12 0) 79 19 0) 80 0 := rfl
        have w493 : (u2 (u2 (u2 (u2 dt 79 17 0) 79 12 0) 79 19 0) 79 21 (-1)) 80 1 = (u2 (u2 (u2 dt 79 17 0) 79 12 0) 79 19 0) 80 1 := rfl
        have w494 : (u2 (u2 (u2 (u2 dt 79 17 0) 79 12 0) 79 19 0) 79 21 (-1)) 80 2 = (u2 (u2 (u2 dt 79 17 0) 79 12 0) 79 19 0) 80 2 := rfl
        have w495 : (u2 (u2 (u2 (u2 dt 79 17 0) 79 12 0) 79 19 0) 79 21 (-1)) 80 3 = (u2 (u2 (u2 dt 79 17 0) 79 12 0) 79 19 0) 80 3 := rfl
        have w496 : (u2 (u2 (u2 (u2 dt 79 17 0) 79 12 0) 79 19 0) 79 21 (-1)) 80 4 = (u2 (u2 (u2 dt 79 17 0) 79 12 0) 79 19 0) 80 4 := rfl
        have w497 : (u2 (u2 (u2 (u2 dt 79 17 0) 79 12 0) 79 19 0) 79 21 (-1)) 80 5 = (u2 (u2 (u2 dt 79 17 0) 79 12 0) 79 19 0) 80 5 := rfl
        have E84498 : (u2 (u2 (u2 (u2 dt 79 17 0) 79 12 0) 79 19 0) 79 21 (-1)) 84 = dt 84 := (funext fun _ => u2_ne (by omega)).trans E84479
        refine go_smp (L' := [some (.inr (.inr (some 79))), some (.inl p1), some (.inl p2), none]) (st' := []) (w' := (SH, (u2 (u2 (u2 (u2 dt 79 17 0) 79 12 0) 79 19 0) 79 21 (-1)))) rfl rfl (s_pf rfl rfl rfl rfl ⟨by omega, by omega⟩) ?_
        refine go_ret (k := 2) (r := some (.inl (-1))) (w1 := (SH, (u2 (u2 (u2 (u2 dt 79 17 0) 79 12 0) 79 19 0) 79 21 (-1)))) (fun _ => rfl) ?_
        exact ⟨(u2 (u2 (u2 (u2 dt 79 17 0) 79 12 0) 79 19 0) 79 21 (-1)), rfl, hI480, hF481, ⟨_, rfl, ⟨by omega, by omega⟩, ⟨by first | trivial | omega, by first | trivial | omega, by first | assumption | exact hM, by first | trivial | omega, by first | trivial | omega, by first | trivial | omega, by first | trivial | omega, by first | trivial | omega, by first | trivial | omega⟩⟩⟩
    · skip
      refine go_to (k := 2) (pc' := 26) (L' := [some (.inr (.inr (some 79))), some (.inl p1), some (.inl p2), none]) (st' := [.inl 7, .inl 0, .inl p2]) (w' := (SH, (u2 dt 79 17 0))) (fun _ => rfl) ?_
      refine go_call (Q' := _) rfl rfl rfl rfl rfl (sp_X6_isIn L xs sio (d + 37) (u2 dt 79 17 0) hI4  p2 ⟨by omega, by omega⟩ 0 ⟨by omega, by omega⟩ 7 ⟨by omega, by omega⟩ ) ?_
      rintro _ _ ⟨rfl, h499⟩
      refine ⟨rfl, ?_⟩
      rcases h499 with ⟨rfl, h499⟩ | ⟨rfl, h499⟩
      · skip
        refine go_to (k := 3) (pc' := 51) (L' := [some (.inr (.inr (some 79))), some (.inl p1), some (.inl p2), none]) (st' := [.inl p1, .inr (.inr (some 79))]) (w' := (SH, (u2 dt 79 17 0))) (fun _ => rfl) ?_
        have hI500 : InvC (u2 (u2 dt 79 17 0) 79 9 p1) := InvC_u2 hI4 (lo := 0) (hi := 1) rfl rfl rfl (by omega) (by omega)
        have hF501 : Fr [79, 80, 82, 83, 84] dt (u2 (u2 dt 79 17 0) 79 9 p1) := Fr_u2 hF5 (by decide)
        have w502 : (u2 (u2 dt 79 17 0) 79 9 p1) 79 2 = (u2 dt 79 17 0) 79 2 := rfl
        have w503 : (u2 (u2 dt 79 17 0) 79 9 p1) 79 9 = p1 := rfl
        have w504 : (u2 (u2 dt 79 17 0) 79 9 p1) 79 10 = (u2 dt 79 17 0) 79 10 := rfl
        have w505 : (u2 (u2 dt 79 17 0) 79 9 p1) 79 11 = (u2 dt 79 17 0) 79 11 := rfl
        have w506 : (u2 (u2 dt 79 17 0) 79 9 p1) 79 12 = (u2 dt 79 17 0) 79 12 := rfl
        have w507 : (u2 (u2 dt 79 17 0) 79 9 p1) 79 13 = (u2 dt 79 17 0) 79 13 := rfl
        have w508 : (u2 (u2 dt 79 17 0) 79 9 p1) 79 14 = (u2 dt 79 17 0) 79 14 := rfl
        have w509 : (u2 (u2 dt 79 17 0) 79 9 p1) 79 15 = (u2 dt 79 17 0) 79 15 := rfl
        have w510 : (u2 (u2 dt 79 17 0) 79 9 p1) 79 16 = (u2 dt 79 17 0) 79 16 := rfl
        have w511 : (u2 (u2 dt 79 17 0) 79 9 p1) 79 20 = (u2 dt 79 17 0) 79 20 := rfl
        have w512 : (u2 (u2 dt 79 17 0) 79 9 p1) 80 0 = (u2 dt 79 17 0) 80 0 := rfl
        have w513 : (u2 (u2 dt 79 17 0) 79 9 p1) 80 1 = (u2 dt 79 17 0) 80 1 := rfl
        have w514 : (u2 (u2 dt 79 17 0) 79 9 p1) 80 2 = (u2 dt 79 17 0) 80 2 := rfl
        have w515 : (u2 (u2 dt 79 17 0) 79 9 p1) 80 3 = (u2 dt 79 17 0) 80 3 := rfl
        have w516 : (u2 (u2 dt 79 17 0) 79 9 p1) 80 4 = (u2 dt 79 17 0) 80 4 := rfl
        have w517 : (u2 (u2 dt 79 17 0) 79 9 p1) 80 5 = (u2 dt 79 17 0) 80 5 := rfl
        have E84518 : (u2 (u2 dt 79 17 0) 79 9 p1) 84 = dt 84 := (funext fun _ => u2_ne (by omega)).trans E8422
        refine go_smp (L' := [some (.inr (.inr (some 79))), some (.inl p1), some (.inl p2), none]) (st' := []) (w' := (SH, (u2 (u2 dt 79 17 0) 79 9 p1))) rfl rfl (s_pf rfl rfl rfl rfl ⟨by omega, by omega⟩) ?_
        refine go_to (k := 2) (pc' := 56) (L' := [some (.inr (.inr (some 79))), some (.inl p1), some (.inl p2), none]) (st' := [.inl 0, .inr (.inr (some 79))]) (w' := (SH, (u2 (u2 dt 79 17 0) 79 9 p1))) (fun _ => rfl) ?_
        have hI519 : InvC (u2 (u2 (u2 dt 79 17 0) 79 9 p1) 79 13 0) := InvC_u2 hI500 (lo := 0) (hi := 501) rfl rfl rfl (by omega) (by omega)
        have hF520 : Fr [79, 80, 82, 83, 84] dt (u2 (u2 (u2 dt 79 17 0) 79 9 p1) 79 13 0) := Fr_u2 hF501 (by decide)
        have w521 : (u2 (u2 (u2 dt 79 17 0) 79 9 p1) 79 13 0) 79 2 = (u2 (u2 dt 79 17 0) 79 9 p1) 79 2 := rfl
        have w522 : (u2 (u2 (u2 dt 79 17 0) 79 9 p1) 79 13 0) 79 9 = (u2 (u2 dt 79 17 0) 79 9 p1) 79 9 := rfl
        have w523 : (u2 (u2 (u2 dt 79 17 0) 79 9 p1) 79 13 0) 79 10 = (u2 (u2 dt 79 17 0) 79 9 p1) 79 10 := rfl
        have w524 : (u2 (u2 (u2 dt 79 17 0) 79 9 p1) 79 13 0) 79 11 = (u2 (u2 dt 79 17 0) 79 9 p1) 79 11 := rfl
        have w525 : (u2 (u2 (u2 dt 79 17 0) 79 9 p1) 79 13 0) 79 12 = (u2 (u2 dt 79 17 0) 79 9 p1) 79 12 := rfl
        have w526 : (u2 (u2 (u2 dt 79 17 0) 79 9 p1) 79 13 0) 79 13 = 0 := rfl
        have w527 : (u2 (u2 (u2 dt 79 17 0) 79 9 p1) 79 13 0) 79 14 = (u2 (u2 dt 79 17 0) 79 9 p1) 79 14 := rfl
        have w528 : (u2 (u2 (u2 dt 79 17 0) 79 9 p1) 79 13 0) 79 15 = (u2 (u2 dt 79 17 0) 79 9 p1) 79 15 := rfl
        have w529 : (u2 (u2 (u2 dt 79 17 0) 79 9 p1) 79 13 0) 79 16 = (u2 (u2 dt 79 17 0) 79 9 p1) 79 16 := rfl
        have w530 : (u2 (u2 (u2 dt 79 17 0) 79 9 p1) 79 13 0) 79 20 = (u2 (u2 dt 79 17 0) 79 9 p1) 79 20 := rfl
        have w531 : (u2 (u2 (u2 dt 79 17 0) 79 9 p1) 79 13 0) 80 0 = (u2 (u2 dt 79 17 0) 79 9 p1) 80 0 := rfl
        have w532 : (u2 (u2 (u2 dt 79 17 0) 79 9 p1) 79 13 0) 80 1 = (u2 (u2 dt 79 17 0) 79 9 p1) 80 1 := rfl
        have w533 : (u2 (u2 (u2 dt 79 17 0) 79 9 p1) 79 13 0) 80 2 = (u2 (u2 dt 79 17 0) 79 9 p1) 80 2 := rfl
        have w534 : (u2 (u2 (u2 dt 79 17 0) 79 9 p1) 79 13 0) 80 3 = (u2 (u2 dt 79 17 0) 79 9 p1) 80 3 := rfl
        have w535 : (u2 (u2 (u2 dt 79 17 0) 79 9 p1) 79 13 0) 80 4 = (u2 (u2 dt 79 17 0) 79 9 p1) 80 4 := rfl
        have w536 : (u2 (u2 (u2 dt 79 17 0) 79 9 p1) 79 13 0) 80 5 = (u2 (u2 dt 79 17 0) 79 9 p1) 80 5 := rfl
        have E84537 : (u2 (u2 (u2 dt 79 17 0) 79 9 p1) 79 13 0) 84 = dt 84 := (funext fun _ => u2_ne (by omega)).trans E84518
        refine go_smp (L' := [some (.inr (.inr (some 79))), some (.inl p1), some (.inl p2), none]) (st' := []) (w' := (SH, (u2 (u2 (u2 dt 79 17 0) 79 9 p1) 79 13 0))) rfl rfl (s_pf rfl rfl rfl rfl ⟨by omega, by omega⟩) ?_
        refine go_to (k := 2) (pc' := 61) (L' := [some (.inr (.inr (some 79))), some (.inl p1), some (.inl p2), none]) (st' := [.inl 0, .inr (.inr (some 79))]) (w' := (SH, (u2 (u2 (u2 dt 79 17 0) 79 9 p1) 79 13 0))) (fun _ => rfl) ?_
        have hI538 : InvC (u2 (u2 (u2 (u2 dt 79 17 0) 79 9 p1) 79 13 0) 79 10 0) := InvC_u2 hI519 (lo := 0) (hi := 24) rfl rfl rfl (by omega) (by omega)
        have hF539 : Fr [79, 80, 82, 83, 84] dt (u2 (u2 (u2 (u2 dt 79 17 0) 79 9 p1) 79 13 0) 79 10 0) := Fr_u2 hF520 (by decide)
        have w540 : (u2 (u2 (u2 (u2 dt 79 17 0) 79 9 p1) 79 13 0) 79 10 0) 79 2 = (u2 (u2 (u2 dt 79 17 0) 79 9 p1) 79 13 0) 79 2 := rfl
        have w541 : (u2 (u2 (u2 (u2 dt 79 17 0) 79 9 p1) 79 13 0) 79 10 0) 79 9 = (u2 (u2 (u2 dt 79 17 0) 79 9 p1) 79 13 0) 79 9 := rfl
        have w542 : (u2 (u2 (u2 (u2 dt 79 17 0) 79 9 p1) 79 13 0) 79 10 0) 79 10 = 0 := rfl
        have w543 : (u2 (u2 (u2 (u2 dt 79 17 0) 79 9 p1) 79 13 0) 79 10 0) 79 11 = (u2 (u2 (u2 dt 79 17 0) 79 9 p1) 79 13 0) 79 11 := rfl
        have w544 : (u2 (u2 (u2 (u2 dt 79 17 0) 79 9 p1) 79 13 0) 79 10 0) 79 12 = (u2 (u2 (u2 dt 79 17 0) 79 9 p1) 79 13 0) 79 12 := rfl
        have w545 : (u2 (u2 (u2 (u2 dt 79 17 0) 79 9 p1) 79 13 0) 79 10 0) 79 13 = (u2 (u2 (u2 dt 79 17 0) 79 9 p1) 79 13 0) 79 13 := rfl
        have w546 : (u2 (u2 (u2 (u2 dt 79 17 0) 79 9 p1) 79 13 0) 79 10 0) 79 14 = (u2 (u2 (u2 dt 79 17 0) 79 9 p1) 79 13 0) 79 14 := rfl
        have w547 : (u2 (u2 (u2 (u2 dt 79 17 0) 79 9 p1) 79 13 0) 79 10 0) 79 15 = (u2 (u2 (u2 dt 79 17 0) 79 9 p1) 79 13 0) 79 15 := rfl
        have w548 : (u2 (u2 (u2 (u2 dt 79 17 0) 79 9 p1) 79 13 0) 79 10 0) 79 16 = (u2 (u2 (u2 dt 79 17 0) 79 9 p1) 79 13 0) 79 16 := rfl
        have w549 : (u2 (u2 (u2 (u2 dt 79 17 0) 79 9 p1) 79 13 0) 79 10 0) 79 20 = (u2 (u2 (u2 dt 79 17 0) 79 9 p1) 79 13 0) 79 20 := rfl
        have w550 : (u2 (u2 (u2 (u2 dt 79 17 0) 79 9 p1) 79 13 0) 79 10 0) 80 0 = (u2 (u2 (u2 dt 79 17 0) 79 9 p1) 79 13 0) 80 0 := rfl
        have w551 : (u2 (u2 (u2 (u2 dt 79 17 0) 79 9 p1) 79 13 0) 79 10 0) 80 1 = (u2 (u2 (u2 dt 79 17 0) 79 9 p1) 79 13 0) 80 1 := rfl
        have w552 : (u2 (u2 (u2 (u2 dt 79 17 0) 79 9 p1) 79 13 0) 79 10 0) 80 2 = (u2 (u2 (u2 dt 79 17 0) 79 9 p1) 79 13 0) 80 2 := rfl
        have w553 : (u2 (u2 (u2 (u2 dt 79 17 0) 79 9 p1) 79 13 0) 79 10 0) 80 3 = (u2 (u2 (u2 dt 79 17 0) 79 9 p1) 79 13 0) 80 3 := rfl
        have w554 : (u2 (u2 (u2 (u2 dt 79 17 0) 79 9 p1) 79 13 0) 79 10 0) 80 4 = (u2 (u2 (u2 dt 79 17 0) 79 9 p1) 79 13 0) 80 4 := rfl
        have w555 : (u2 (u2 (u2 (u2 dt 79 17 0) 79 9 p1) 79 13 0) 79 10 0) 80 5 = (u2 (u2 (u2 dt 79 17 0) 79 9 p1) 79 13 0) 80 5 := rfl
        have E84556 : (u2 (u2 (u2 (u2 dt 79 17 0) 79 9 p1) 79 13 0) 79 10 0) 84 = dt 84 := (funext fun _ => u2_ne (by omega)).trans E84537
        refine go_smp (L' := [some (.inr (.inr (some 79))), some (.inl p1), some (.inl p2), none]) (st' := []) (w' := (SH, (u2 (u2 (u2 (u2 dt 79 17 0) 79 9 p1) 79 13 0) 79 10 0))) rfl rfl (s_pf rfl rfl rfl rfl ⟨by omega, by omega⟩) ?_
        refine go_to (k := 2) (pc' := 66) (L' := [some (.inr (.inr (some 79))), some (.inl p1), some (.inl p2), none]) (st' := [.inl 0, .inr (.inr (some 79))]) (w' := (SH, (u2 (u2 (u2 (u2 dt 79 17 0) 79 9 p1) 79 13 0) 79 10 0))) (fun _ => rfl) ?_
        have hI557 : InvC (u2 (u2 (u2 (u2 (u2 dt 79 17 0) 79 9 p1) 79 13 0) 79 10 0) 79 11 0) := InvC_u2 hI538 (lo := 0) (hi := 510) rfl rfl rfl (by omega) (by omega)
        have hF558 : Fr [79, 80, 82, 83, 84] dt (u2 (u2 (u2 (u2 (u2 dt 79 17 0) 79 9 p1) 79 13 0) 79 10 0) 79 11 0) := Fr_u2 hF539 (by decide)
        have w559 : (u2 (u2 (u2 (u2 (u2 dt 79 17 0) 79 9 p1) 79 13 0) 79 10 0) 79 11 0) 79 2 = (u2 (u2 (u2 (u2 dt 79 17 0) 79 9 p1) 79 13 0) 79 10 0) 79 2 := rfl
        have w560 : (u2 (u2 (u2 (u2 (u2 dt 79 17 0) 79 9 p1) 79 13 0) 79 10 0) 79 11 0) 79 9 = (u2 (u2 (u2 (u2 dt 79 17 0) 79 9 p1) 79 13 0) 79 10 0) 79 9 := rfl
        have w561 : (u2 (u2 (u2 (u2 (u2 dt 79 17 0) 79 9 p1) 79 13 0) 79 10 0) 79 11 0) 79 10 = (u2 (u2 (u2 (u2 dt 79 17 0) 79 9 p1) 79 13 0) 79 10 0) 79 10 := rfl
        have w562 : (u2 (u2 (u2 (u2 (u2 dt 79 17 0) 79 9 p1) 79 13 0) 79 10 0) 79 11 0) 79 11 = 0 := rfl
        have w563 : (u2 (u2 (u2 (u2 (u2 dt 79 17 0) 79 9 p1) 79 13 0) 79 10 0) 79 11 0) 79 12 = (u2 (u2 (u2 (u2 dt 79 17 0) 79 9 p1) 79 13 0) 79 10 0) 79 12 := rfl
        have w564 : (u2 (u2 (u2 (u2 (u2 dt 79 17 0) 79 9 p1) 79 13 0) 79 10 0) 79 11 0) 79 13 = (u2 (u2 (u2 (u2 dt 79 17 0) 79 9 p1) 79 13 0) 79 10 0) 79 13 := rfl
        have w565 : (u2 (u2 (u2 (u2 (u2 dt 79 17 0) 79 9 p1) 79 13 0) 79 10 0) 79 11 0) 79 14 = (u2 (u2 (u2 (u2 dt 79 17 0) 79 9 p1) 79 13 0) 79 10 0) 79 14 := rfl
        have w566 : (u2 (u2 (u2 (u2 (u2 dt 79 17 0) 79 9 p1) 79 13 0) 79 10 0) 79 11 0) 79 15 = (u2 (u2 (u2 (u2 dt 79 17 0) 79 9 p1) 79 13 0) 79 10 0) 79 15 := rfl
        have w567 : (u2 (u2 (u2 (u2 (u2 dt 79 17 0) 79 9 p1) 79 13 0) 79 10 0) 79 11 0) 79 16 = (u2 (u2 (u2 (u2 dt 79 17 0) 79 9 p1) 79 13 0) 79 10 0) 79 16 := rfl
        have w568 : (u2 (u2 (u2 (u2 (u2 dt 79 17 0) 79 9 p1) 79 13 0) 79 10 0) 79 11 0) 79 20 = (u2 (u2 (u2 (u2 dt 79 17 0) 79 9 p1) 79 13 0) 79 10 0) 79 20 := rfl
        have w569 : (u2 (u2 (u2 (u2 (u2 dt 79 17 0) 79 9 p1) 79 13 0) 79 10 0) 79 11 0) 80 0 = (u2 (u2 (u2 (u2 dt 79 17 0) 79 9 p1) 79 13 0) 79 10 0) 80 0 := rfl
        have w570 : (u2 (u2 (u2 (u2 (u2 dt 79 17 0) 79 9 p1) 79 13 0) 79 10 0) 79 11 0) 80 1 = (u2 (u2 (u2 (u2 dt 79 17 0) 79 9 p1) 79 13 0) 79 10 0) 80 1 := rfl
        have w571 : (u2 (u2 (u2 (u2 (u2 dt 79 17 0) 79 9 p1) 79 13 0) 79 10 0) 79 11 0) 80 2 = (u2 (u2 (u2 (u2 dt 79 17 0) 79 9 p1) 79 13 0) 79 10 0) 80 2 := rfl
        have w572 : (u2 (u2 (u2 (u2 (u2 dt 79 17 0) 79 9 p1) 79 13 0) 79 10 0) 79 11 0) 80 3 = (u2 (u2 (u2 (u2 dt 79 17 0) 79 9 p1) 79 13 0) 79 10 0) 80 3 := rfl
        have w573 : (u2 (u2 (u2 (u2 (u2 dt 79 17 0) 79 9 p1) 79 13 0) 79 10 0) 79 11 0) 80 4 = (u2 (u2 (u2 (u2 dt 79 17 0) 79 9 p1) 79 13 0) 79 10 0) 80 4 := rfl
        have w574 : (u2 (u2 (u2 (u2 (u2 dt 79 17 0) 79 9 p1) 79 13 0) 79 10 0) 79 11 0) 80 5 = (u2 (u2 (u2 (u2 dt 79 17 0) 79 9 p1) 79 13 0) 79 10 0) 80 5 := rfl
        have E84575 : (u2 (u2 (u2 (u2 (u2 dt 79 17 0) 79 9 p1) 79 13 0) 79 10 0) 79 11 0) 84 = dt 84 := (funext fun _ => u2_ne (by omega)).trans E84556
        refine go_smp (L' := [some (.inr (.inr (some 79))), some (.inl p1), some (.inl p2), none]) (st' := []) (w' := (SH, (u2 (u2 (u2 (u2 (u2 dt 79 17 0) 79 9 p1) 79 13 0) 79 10 0) 79 11 0))) rfl rfl (s_pf rfl rfl rfl rfl ⟨by omega, by omega⟩) ?_
        refine go_to (k := 1) (pc' := 70) (L' := [some (.inr (.inr (some 79))), some (.inl p1), some (.inl p2), none]) (st' := [.inr (.inr (some 79))]) (w' := (SH, (u2 (u2 (u2 (u2 (u2 dt 79 17 0) 79 9 p1) 79 13 0) 79 10 0) 79 11 0))) (fun _ => rfl) ?_
        refine go_call (Q' := _) rfl rfl rfl rfl rfl (sp_X6_next0 L xs sio (d + 31) (u2 (u2 (u2 (u2 (u2 dt 79 17 0) 79 9 p1) 79 13 0) 79 10 0) 79 11 0) hI557   (by first | trivial | omega | exact hI4 (by omega) (by omega) | exact hI5 (by omega) (by omega))) ?_
        rintro _ _ ⟨dt577, rfl, hI578, hF579, h576⟩
        refine ⟨rfl, ?_⟩
        have hF580 : Fr [79, 80, 82, 83, 84] dt dt577 := Fr_tr hF558 hF579 (by decide)
        have hM581 : MW (dt577 80) := MW_fr (d0 := (u2 (u2 (u2 (u2 (u2 dt 79 17 0) 79 9 p1) 79 13 0) 79 10 0) 79 11 0)) hM hF579 (by decide)
        have w582 : dt577 80 0 = (u2 (u2 (u2 (u2 (u2 dt 79 17 0) 79 9 p1) 79 13 0) 79 10 0) 79 11 0) 80 0 := hF579 80 (by decide) 0
        have w583 : dt577 80 1 = (u2 (u2 (u2 (u2 (u2 dt 79 17 0) 79 9 p1) 79 13 0) 79 10 0) 79 11 0) 80 1 := hF579 80 (by decide) 1
        have w584 : dt577 80 2 = (u2 (u2 (u2 (u2 (u2 dt 79 17 0) 79 9 p1) 79 13 0) 79 10 0) 79 11 0) 80 2 := hF579 80 (by decide) 2
        have w585 : dt577 80 3 = (u2 (u2 (u2 (u2 (u2 dt 79 17 0) 79 9 p1) 79 13 0) 79 10 0) 79 11 0) 80 3 := hF579 80 (by decide) 3
        have w586 : dt577 80 4 = (u2 (u2 (u2 (u2 (u2 dt 79 17 0) 79 9 p1) 79 13 0) 79 10 0) 79 11 0) 80 4 := hF579 80 (by decide) 4
        have w587 : dt577 80 5 = (u2 (u2 (u2 (u2 (u2 dt 79 17 0) 79 9 p1) 79 13 0) 79 10 0) 79 11 0) 80 5 := hF579 80 (by decide) 5
        have E84588 : dt577 84 = dt 84 := (funext (hF579 84 (by decide))).trans E84575
        rcases h576 with ⟨rfl, h576⟩
        obtain ⟨h576_0, h576_1, h576_2, h576_3, h576_4, h576_5, h576_6, h576_7, h576_8⟩ := h576
        refine go_to (k := 2) (pc' := 75) (L' := [some (.inr (.inr (some 79))), some (.inl p1), some (.inl p2), some (.inl 1)]) (st' := []) (w' := (SH, dt577)) (fun _ => rfl) ?_
        have loop717 : ∀ (k_ : Nat) (l75_3 : Int) (dt699 : Nat → Nat → Int) (hI700 : InvC dt699) (hF701 : Fr [79, 80, 82, 83, 84] dt dt699) (hM_dt699 : MW (dt699 80)) (i702 : 0 ≤ l75_3 ∧ l75_3 ≤ 1) (i703 : l75_3 = 1 → (¬ dt699 79 14 = 0 → dt699 79 15 + 1 ≤ dt699 79 13) ∧ dt699 79 13 ≤ 500) (i704 : dt699 79 15 ≤ 500) (i705 : l75_3 = 1 → dt699 79 11 ≤ dt699 79 15) (i706 : l75_3 = 1 → p1 = 1 → dt699 79 10 ≤ 16) (i707 : l75_3 = 1 → p1 = 0 → ARW (dt699 82) (dt699 79 10)) (i708 : l75_3 = 1 → p1 = 1 → LRW (dt699 83) (dt699 84) (dt699 79 10) (dt699 79 11)) (i709 : dt699 79 2 = dt 79 2) (i710 : dt699 79 9 = p1) (i711 : dt699 80 0 = dt577 80 0) (i712 : dt699 80 1 = dt577 80 1) (i713 : dt699 80 2 = dt577 80 2) (i714 : dt699 80 3 = dt577 80 3) (i715 : dt699 80 4 = dt577 80 4) (i716 : dt699 80 5 = dt577 80 5), (l75_3 * (502 - dt699 79 15)).toNat < k_ → GO (am_XX L xs sio) (d + 38) 174 75 [some (.inr (.inr (some 79))), some (.inl p1), some (.inl p2), some (.inl l75_3)] [] (SH, dt699) (fun r w2 => ∃ dt2 : Nat → Nat → Int, w2 = (SH, dt2) ∧ InvC dt2 ∧ Fr [79, 80, 82, 83, 84] dt dt2 ∧ ((∃ v : Int, r = some (.inl v) ∧ ((-1) ≤ v ∧ v ≤ 24) ∧ (dt2 79 12 = 0) ∧ (dt2 79 2 = dt 79 2) ∧ (MW (dt2 80)) ∧ (dt2 80 0 = dt 80 0) ∧ (dt2 80 1 = dt 80 1) ∧ (dt2 80 2 = dt 80 2) ∧ (dt2 80 3 = dt 80 3) ∧ (dt2 80 4 = dt 80 4) ∧ (dt2 80 5 = dt 80 5)))) := by
          intro k_
          induction k_ with
          | zero => intro l75_3 dt699 hI700 hF701 hM_dt699 i702 i703 i704 i705 i706 i707 i708 i709 i710 i711 i712 i713 i714 i715 i716 hm; exact absurd hm (Nat.not_lt_zero _)
          | succ k_ ih_loop717 =>
            intro l75_3 dt699 hI700 hF701 hM_dt699 i702 i703 i704 i705 i706 i707 i708 i709 i710 i711 i712 i713 i714 i715 i716 hm
            have hI4 := i707
            have hI5 := i708
            have hm1 : l75_3 = 1 → (l75_3 * (502 - dt699 79 15)).toNat = (502 - dt699 79 15).toNat := fun e => by rw [e, Int.one_mul]
            refine go_if (k := 2) (p1 := 123) (p2 := 79) (L' := [some (.inr (.inr (some 79))), some (.inl p1), some (.inl p2), some (.inl l75_3)]) (st' := []) (w' := (SH, dt699)) (fun _ => rfl) (z_eq (a := l75_3) ⟨by omega, by omega⟩) (fun c718 => ?_) (fun c718 => ?_)
            · skip
              refine go_to (k := 2) (pc' := 125) (L' := [some (.inr (.inr (some 79))), some (.inl p1), some (.inl p2), some (.inl l75_3)]) (st' := [.inl 0, .inr (.inr (some 79))]) (w' := (SH, dt699)) (fun _ => rfl) ?_
              have hI719 : InvC (u2 dt699 79 12 0) := InvC_u2 hI700 (lo := 0) (hi := 500) rfl rfl rfl (by omega) (by omega)
              have hF720 : Fr [79, 80, 82, 83, 84] dt (u2 dt699 79 12 0) := Fr_u2 hF701 (by decide)
              have w721 : (u2 dt699 79 12 0) 79 2 = dt699 79 2 := rfl
              have w722 : (u2 dt699 79 12 0) 79 9 = dt699 79 9 := rfl
              have w723 : (u2 dt699 79 12 0) 79 10 = dt699 79 10 := rfl
              have w724 : (u2 dt699 79 12 0) 79 11 = dt699 79 11 := rfl
              have w725 : (u2 dt699 79 12 0) 79 12 = 0 := rfl
              have w726 : (u2 dt699 79 12 0) 79 13 = dt699 79 13 := rfl
              have w727 : (u2 dt699 79 12 0) 79 14 = dt699 79 14 := rfl
              have w728 : (u2 dt699 79 12 0) 79 15 = dt699 79 15 := rfl
              have w729 : (u2 dt699 79 12 0) 79 16 = dt699 79 16 := rfl
              have w730 : (u2 dt699 79 12 0) 79 20 = dt699 79 20 := rfl
              have w731 : (u2 dt699 79 12 0) 80 0 = dt699 80 0 := rfl
              have w732 : (u2 dt699 79 12 0) 80 1 = dt699 80 1 := rfl
              have w733 : (u2 dt699 79 12 0) 80 2 = dt699 80 2 := rfl
              have w734 : (u2 dt699 79 12 0) 80 3 = dt699 80 3 := rfl
              have w735 : (u2 dt699 79 12 0) 80 4 = dt699 80 4 := rfl
              have w736 : (u2 dt699 79 12 0) 80 5 = dt699 80 5 := rfl
              have E84737 : (u2 dt699 79 12 0) 84 = dt699 84 := funext fun _ => u2_ne (by omega)
              refine go_smp (L' := [some (.inr (.inr (some 79))), some (.inl p1), some (.inl p2), some (.inl l75_3)]) (st' := []) (w' := (SH, (u2 dt699 79 12 0))) rfl rfl (s_pf rfl rfl rfl rfl ⟨by omega, by omega⟩) ?_
              have r738 : (-2147483648) ≤ dt699 79 17 ∧ dt699 79 17 ≤ 2147483647 := InvC_get hI700 79 17 rfl rfl
              refine go_to (k := 3) (pc' := 133) (L' := [some (.inr (.inr (some 79))), some (.inl p1), some (.inl p2), some (.inl l75_3)]) (st' := [.inl (dt699 79 17), .inr (.inr (some 79))]) (w' := (SH, (u2 dt699 79 12 0))) (fun _ => rfl) ?_
              have hI739 : InvC (u2 (u2 dt699 79 12 0) 79 19 (dt699 79 17)) := InvC_u2 hI719 (lo := -2147483648) (hi := 2147483647) rfl rfl rfl (by omega) (by omega)
              have hF740 : Fr [79, 80, 82, 83, 84] dt (u2 (u2 dt699 79 12 0) 79 19 (dt699 79 17)) := Fr_u2 hF720 (by decide)
              have w741 : (u2 (u2 dt699 79 12 0) 79 19 (dt699 79 17)) 79 2 = (u2 dt699 79 12 0) 79 2 := rfl
              have w742 : (u2 (u2 dt699 79 12 0) 79 19 (dt699 79 17)) 79 9 = (u2 dt699 79 12 0) 79 9 := rfl
              have w743 : (u2 (u2 dt699 79 12 0) 79 19 (dt699 79 17)) 79 10 = (u2 dt699 79 12 0) 79 10 := rfl
              have w744 : (u2 (u2 dt699 79 12 0) 79 19 (dt699 79 17)) 79 11 = (u2 dt699 79 12 0) 79 11 := rfl
              have w745 : (u2 (u2 dt699 79 12 0) 79 19 (dt699 79 17)) 79 12 = (u2 dt699 79 12 0) 79 12 := rfl
              have w746 : (u2 (u2 dt699 79 12 0) 79 19 (dt699 79 17)) 79 13 = (u2 dt699 79 12 0) 79 13 := rfl
              have w747 : (u2 (u2 dt699 79 12 0) 79 19 (dt699 79 17)) 79 14 = (u2 dt699 79 12 0) 79 14 := rfl
              have w748 : (u2 (u2 dt699 79 12 0) 79 19 (dt699 79 17)) 79 15 = (u2 dt699 79 12 0) 79 15 := rfl
              have w749 : (u2 (u2 dt699 79 12 0) 79 19 (dt699 79 17)) 79 16 = (u2 dt699 79 12 0) 79 16 := rfl
              have w750 : (u2 (u2 dt699 79 12 0) 79 19 (dt699 79 17)) 79 20 = (u2 dt699 79 12 0) 79 20 := rfl
              have w751 : (u2 (u2 dt699 79 12 0) 79 19 (dt699 79 17)) 80 0 = (u2 dt699 79 12 0) 80 0 := rfl
              have w752 : (u2 (u2 dt699 79 12 0) 79 19 (dt699 79 17)) 80 1 = (u2 dt699 79 12 0) 80 1 := rfl
              have w753 : (u2 (u2 dt699 79 12 0) 79 19 (dt699 79 17)) 80 2 = (u2 dt699 79 12 0) 80 2 := rfl
              have w754 : (u2 (u2 dt699 79 12 0) 79 19 (dt699 79 17)) 80 3 = (u2 dt699 79 12 0) 80 3 := rfl
              have w755 : (u2 (u2 dt699 79 12 0) 79 19 (dt699 79 17)) 80 4 = (u2 dt699 79 12 0) 80 4 := rfl
              have w756 : (u2 (u2 dt699 79 12 0) 79 19 (dt699 79 17)) 80 5 = (u2 dt699 79 12 0) 80 5 := rfl
              have E84757 : (u2 (u2 dt699 79 12 0) 79 19 (dt699 79 17)) 84 = dt699 84 := (funext fun _ => u2_ne (by omega)).trans E84737
              refine go_smp (L' := [some (.inr (.inr (some 79))), some (.inl p1), some (.inl p2), some (.inl l75_3)]) (st' := []) (w' := (SH, (u2 (u2 dt699 79 12 0) 79 19 (dt699 79 17)))) rfl rfl (s_pf rfl rfl rfl rfl ⟨by omega, by omega⟩) ?_
              refine go_if (k := 3) (p1 := 145) (p2 := 141) (L' := [some (.inr (.inr (some 79))), some (.inl p1), some (.inl p2), some (.inl l75_3)]) (st' := [.inr (.inr (some 79))]) (w' := (SH, (u2 (u2 dt699 79 12 0) 79 19 (dt699 79 17)))) (fun _ => rfl) (z_eq (a := l75_3) ⟨by omega, by omega⟩) (fun c758 => ?_) (fun c758 => ?_)
              · skip
                have r759 : (-2147483648) ≤ dt699 79 18 ∧ dt699 79 18 ≤ 2147483647 := InvC_get hI700 79 18 rfl rfl
                refine go_to (k := 2) (pc' := 149) (L' := [some (.inr (.inr (some 79))), some (.inl p1), some (.inl p2), some (.inl l75_3)]) (st' := [.inl (dt699 79 18), .inr (.inr (some 79))]) (w' := (SH, (u2 (u2 dt699 79 12 0) 79 19 (dt699 79 17)))) (fun _ => rfl) ?_
                have hI760 : InvC (u2 (u2 (u2 dt699 79 12 0) 79 19 (dt699 79 17)) 79 21 (dt699 79 18)) := InvC_u2 hI739 (lo := -2147483648) (hi := 2147483647) rfl rfl rfl (by omega) (by omega)
                have hF761 : Fr [79, 80, 82, 83, 84] dt (u2 (u2 (u2 dt699 79 12 0) 79 19 (dt699 79 17)) 79 21 (dt699 79 18)) := Fr_u2 hF740 (by decide)
                have w762 : (u2 (u2 (u2 dt699 79 12 0) 79 19 (dt699 79 17)) 79 21 (dt699 79 18)) 79 2 = (u2 (u2 dt699 79 12 0) 79 19 (dt699 79 17)) 79 2 := rfl
                have w763 : (u2 (u2 (u2 dt699 79 12 0) 79 19 (dt699 79 17)) 79 21 (dt699 79 18)) 79 9 = (u2 (u2 dt699 79 12 0) 79 19 (dt699 79 17)) 79 9 := rfl
                have w764 : (u2 (u2 (u2 dt699 79 12 0) 79 19 (dt699 79 17)) 79 21 (dt699 79 18)) 79 10 = (u2 (u2 dt699 79 12 0) 79 19 (dt699 79 17)) 79 10 := rfl
                have w765 : (u2 (u2 (u2 dt699 79 12 0) 79 19 (dt699 79 17)) 79 21 (dt699 79 18)) 79 11 = (u2 (u2 dt699 79 12 0) 79 19 (dt699 79 17)) 79 11 := rfl
                have w766 : (u2 (u2 (u2 dt699 79 12 0) 79 19 (dt699 79 17)) 79 21 (dt699 79 18)) 79 12 = (u2 (u2 dt699 79 12 0) 79 19 (dt699 79 17)) 79 12 := rfl
                have w767 : (u2 (u2 (u2 dt699 79 12 0) 79 19 (dt699 79 17)) 79 21 (dt699 79 18)) 79 13 = (u2 (u2 dt699 79 12 0) 79 19 (dt699 79 17)) 79 13 := rfl
                have w768 : (u2 (u2 (u2 dt699 79 12 0) 79 19 (dt699 79 17)) 79 21 (dt699 79 18)) 79 14 = (u2 (u2 dt699 79 12 0) 79 19 (dt699 79 17)) 79 14 := rfl
                have w769 : (u2 (u2 (u2 dt699 79 12 0) 79 19 (dt699 79 17)) 79 21 (dt699 79 18)) 79 15 = (u2 (u2 dt699 79 12 0) 79 19 (dt699 79 17)) 79 15 := rfl
                have w770 : (u2 (u2 (u2 dt699 79 12 0) 79 19 (dt699 79 17)) 79 21 (dt699 79 18)) 79 16 = (u2 (u2 dt699 79 12 0) 79 19 (dt699 79 17)) 79 16 := rfl
                have w771 : (u2 (u2 (u2 dt699 79 12 0) 79 19 (dt699 79 17)) 79 21 (dt699 79 18)) 79 20 = (u2 (u2 dt699 79 12 0) 79 19 (dt699 79 17)) 79 20 := rfl
                have w772 : (u2 (u2 (u2 dt699 79 12 0) 79 19 (dt699 79 17)) 79 21 (dt699 79 18)) 80 0 = (u2 (u2 dt699 79 12 0) 79 19 (dt699 79 17)) 80 0 := rfl
                have w773 : (u2 (u2 (u2 dt699 79 12 0) 79 19 (dt699 79 17)) 79 21 (dt699 79 18)) 80 1 = (u2 (u2 dt699 79 12 0) 79 19 (dt699 79 17)) 80 1 := rfl
                have w774 : (u2 (u2 (u2 dt699 79 12 0) 79 19 (dt699 79 17)) 79 21 (dt699 79 18)) 80 2 = (u2 (u2 dt699 79 12 0) 79 19 (dt699 79 17)) 80 2 := rfl
                have w775 : (u2 (u2 (u2 dt699 79 12 0) 79 19 (dt699 79 17)) 79 21 (dt699 79 18)) 80 3 = (u2 (u2 dt699 79 12 0) 79 19 (dt699 79 17)) 80 3 := rfl
                have w776 : (u2 (u2 (u2 dt699 79 12 0) 79 19 (dt699 79 17)) 79 21 (dt699 79 18)) 80 4 = (u2 (u2 dt699 79 12 0) 79 19 (dt699 79 17)) 80 4 := rfl
                have w777 : (u2 (u2 (u2 dt699 79 12 0) 79 19 (dt699 79 17)) 79 21 (dt699 79 18)) 80 5 = (u2 (u2 dt699 79 12 0) 79 19 (dt699 79 17)) 80 5 := rfl
                have E84778 : (u2 (u2 (u2 dt699 79 12 0) 79 19 (dt699 79 17)) 79 21 (dt699 79 18)) 84 = dt699 84 := (funext fun _ => u2_ne (by omega)).trans E84757
                refine go_smp (L' := [some (.inr (.inr (some 79))), some (.inl p1), some (.inl p2), some (.inl l75_3)]) (st' := []) (w' := (SH, (u2 (u2 (u2 dt699 79 12 0) 79 19 (dt699 79 17)) 79 21 (dt699 79 18)))) rfl rfl (s_pf rfl rfl rfl rfl ⟨by omega, by omega⟩) ?_
                refine go_if (k := 2) (p1 := 158) (p2 := 156) (L' := [some (.inr (.inr (some 79))), some (.inl p1), some (.inl p2), some (.inl l75_3)]) (st' := []) (w' := (SH, (u2 (u2 (u2 dt699 79 12 0) 79 19 (dt699 79 17)) 79 21 (dt699 79 18)))) (fun _ => rfl) (z_ne (a := l75_3) ⟨by omega, by omega⟩) (fun c779 => ?_) (fun c779 => ?_)
                · skip
                  refine go_to (k := 2) (pc' := 160) (L' := [some (.inr (.inr (some 79))), some (.inl p1), some (.inl p2), some (.inl l75_3)]) (st' := [.inl p2, .inr (.inr (some 79))]) (w' := (SH, (u2 (u2 (u2 dt699 79 12 0) 79 19 (dt699 79 17)) 79 21 (dt699 79 18)))) (fun _ => rfl) ?_
                  refine go_call (Q' := _) rfl rfl rfl rfl rfl (sp_X6_keeps_k0 L xs sio (d + 37) (u2 (u2 (u2 dt699 79 12 0) 79 19 (dt699 79 17)) 79 21 (dt699 79 18)) hI760 hM_dt699  p2 ⟨by omega, by omega⟩ (by first | trivial | omega | exact hI4 (by omega) (by omega) | exact hI5 (by omega) (by omega)) (by first | trivial | omega | exact hI4 (by omega) (by omega) | exact hI5 (by omega) (by omega)) (by first | trivial | omega | exact hI4 (by omega) (by omega) | exact hI5 (by omega) (by omega))) ?_
                  rintro _ _ ⟨dt781, rfl, hI782, hF783, h780⟩
                  refine ⟨rfl, ?_⟩
                  have hF784 : Fr [79, 80, 82, 83, 84] dt dt781 := Fr_tr hF761 hF783 (by decide)
                  have w785 : dt781 79 2 = (u2 (u2 (u2 dt699 79 12 0) 79 19 (dt699 79 17)) 79 21 (dt699 79 18)) 79 2 := hF783 79 (by decide) 2
                  have w786 : dt781 79 9 = (u2 (u2 (u2 dt699 79 12 0) 79 19 (dt699 79 17)) 79 21 (dt699 79 18)) 79 9 := hF783 79 (by decide) 9
                  have w787 : dt781 79 10 = (u2 (u2 (u2 dt699 79 12 0) 79 19 (dt699 79 17)) 79 21 (dt699 79 18)) 79 10 := hF783 79 (by decide) 10
                  have w788 : dt781 79 11 = (u2 (u2 (u2 dt699 79 12 0) 79 19 (dt699 79 17)) 79 21 (dt699 79 18)) 79 11 := hF783 79 (by decide) 11
                  have w789 : dt781 79 12 = (u2 (u2 (u2 dt699 79 12 0) 79 19 (dt699 79 17)) 79 21 (dt699 79 18)) 79 12 := hF783 79 (by decide) 12
                  have w790 : dt781 79 13 = (u2 (u2 (u2 dt699 79 12 0) 79 19 (dt699 79 17)) 79 21 (dt699 79 18)) 79 13 := hF783 79 (by decide) 13
                  have w791 : dt781 79 14 = (u2 (u2 (u2 dt699 79 12 0) 79 19 (dt699 79 17)) 79 21 (dt699 79 18)) 79 14 := hF783 79 (by decide) 14
                  have w792 : dt781 79 15 = (u2 (u2 (u2 dt699 79 12 0) 79 19 (dt699 79 17)) 79 21 (dt699 79 18)) 79 15 := hF783 79 (by decide) 15
                  have w793 : dt781 79 16 = (u2 (u2 (u2 dt699 79 12 0) 79 19 (dt699 79 17)) 79 21 (dt699 79 18)) 79 16 := hF783 79 (by decide) 16
                  have w794 : dt781 79 20 = (u2 (u2 (u2 dt699 79 12 0) 79 19 (dt699 79 17)) 79 21 (dt699 79 18)) 79 20 := hF783 79 (by decide) 20
                  have E84795 : dt781 84 = dt699 84 := (funext (hF783 84 (by decide))).trans E84778
                  rcases h780 with ⟨rfl, h780⟩
                  have hM796 : MW (dt781 80) := h780.1
                  obtain ⟨h780_0, h780_1, h780_2, h780_3, h780_4, h780_5, h780_6⟩ := h780
                  have r797 : 0 ≤ dt781 79 10 ∧ dt781 79 10 ≤ 24 := InvC_get hI782 79 10 rfl rfl
                  refine go_ret (k := 3) (r := some (.inl (dt781 79 10))) (w1 := (SH, dt781)) (fun _ => rfl) ?_
                  exact ⟨dt781, rfl, hI782, hF784, ⟨_, rfl, ⟨by omega, by omega⟩, ⟨by first | trivial | omega, by first | trivial | omega, by first | assumption | exact hM, by first | trivial | omega, by first | trivial | omega, by first | trivial | omega, by first | trivial | omega, by first | trivial | omega, by first | trivial | omega⟩⟩⟩
                · skip
                  refine go_ret (k := 2) (r := some (.inl (-1))) (w1 := (SH, (u2 (u2 (u2 dt699 79 12 0) 79 19 (dt699 79 17)) 79 21 (dt699 79 18)))) (fun _ => rfl) ?_
                  exact ⟨(u2 (u2 (u2 dt699 79 12 0) 79 19 (dt699 79 17)) 79 21 (dt699 79 18)), rfl, hI760, hF761, ⟨_, rfl, ⟨by omega, by omega⟩, ⟨by first | trivial | omega, by first | trivial | omega, by first | assumption | exact hM, by first | trivial | omega, by first | trivial | omega, by first | trivial | omega, by first | trivial | omega, by first | trivial | omega, by first | trivial | omega⟩⟩⟩
              · skip
                refine go_to (k := 2) (pc' := 149) (L' := [some (.inr (.inr (some 79))), some (.inl p1), some (.inl p2), some (.inl l75_3)]) (st' := [.inl (-1), .inr (.inr (some 79))]) (w' := (SH, (u2 (u2 dt699 79 12 0) 79 19 (dt699 79 17)))) (fun _ => rfl) ?_
                have hI798 : InvC (u2 (u2 (u2 dt699 79 12 0) 79 19 (dt699 79 17)) 79 21 (-1)) := InvC_u2 hI739 (lo := -2147483648) (hi := 2147483647) rfl rfl rfl (by omega) (by omega)
                have hF799 : Fr [79, 80, 82, 83, 84] dt (u2 (u2 (u2 dt699 79 12 0) 79 19 (dt699 79 17)) 79 21 (-1)) := Fr_u2 hF740 (by decide)
                have w800 : (u2 (u2 (u2 dt699 79 12 0) 79 19 (dt699 79 17)) 79 21 (-1)) 79 2 = (u2 (u2 dt699 79 12 0) 79 19 (dt699 79 17)) 79 2 := rfl
                have w801 : (u2 (u2 (u2 dt699 79 12 0) 79 19 (dt699 79 17)) 79 21 (-1)) 79 9 = (u2 (u2 dt699 79 12 0) 79 19 (dt699 79 17)) 79 9 := rfl
                have w802 : (u2 (u2 (u2 dt699 79 12 0) 79 19 (dt699 79 17)) 79 21 (-1)) 79 10 = (u2 (u2 dt699 79 12 0) 79 19 (dt699 79 17)) 79 10 := rfl
                have w803 : (u2 (u2 (u2 dt699 79 12 0) 79 19 (dt699 79 17)) 79 21 (-1)) 79 11 = (u2 (u2 dt699 79 12 0) 79 19 (dt699 79 17)) 79 11 := rfl
                have w804 : (u2 (u2 (u2 dt699 79 12 0) 79 19 (dt699 79 17)) 79 21 (-1)) 79 12 = (u2 (u2 dt699 79 12 0) 79 19 (dt699 79 17)) 79 12 := rfl
                have w805 : (u2 (u2 (u2 dt699 79 12 0) 79 19 (dt699 79 17)) 79 21 (-1)) 79 13 = (u2 (u2 dt699 79 12 0) 79 19 (dt699 79 17)) 79 13 := rfl
                have w806 : (u2 (u2 (u2 dt699 79 12 0) 79 19 (dt699 79 17)) 79 21 (-1)) 79 14 = (u2 (u2 dt699 79 12 0) 79 19 (dt699 79 17)) 79 14 := rfl
                have w807 : (u2 (u2 (u2 dt699 79 12 0) 79 19 (dt699 79 17)) 79 21 (-1)) 79 15 = (u2 (u2 dt699 79 12 0) 79 19 (dt699 79 17)) 79 15 := rfl
                have w808 : (u2 (u2 (u2 dt699 79 12 0) 79 19 (dt699 79 17)) 79 21 (-1)) 79 16 = (u2 (u2 dt699 79 12 0) 79 19 (dt699 79 17)) 79 16 := rfl
                have w809 : (u2 (u2 (u2 dt699 79 12 0) 79 19 (dt699 79 17)) 79 21 (-1)) 79 20 = (u2 (u2 dt699 79 12 0) 79 19 (dt699 79 17)) 79 20 := rfl
                have w810 : (u2 (u2 (u2 dt699 79 12 0) 79 19 (dt699 79 17)) 79 21 (-1)) 80 0 = (u2 (u2 dt699 79 12 0) 79 19 (dt699 79 17)) 80 0 := rfl
                have w811 : (u2 (u2 (u2 dt699 79 12 0) 79 19 (dt699 79 17)) 79 21 (-1)) 80 1 = (u2 (u2 dt699 79 12 0) 79 19 (dt699 79 17)) 80 1 := rfl
                have w812 : (u2 (u2 (u2 dt699 79 12 0) 79 19 (dt699 79 17)) 79 21 (-1)) 80 2 = (u2 (u2 dt699 79 12 0) 79 19 (dt699 79 17)) 80 2 := rfl
                have w813 : (u2 (u2 (u2 dt699 79 12 0) 79 19 (dt699 79 17)) 79 21 (-1)) 80 3 = (u2 (u2 dt699 79 12 0) 79 19 (dt699 79 17)) 80 3 := rfl
                have w814 : (u2 (u2 (u2 dt699 79 12 0) 79 19 (dt699 79 17)) 79 21 (-1)) 80 4 = (u2 (u2 dt699 79 12 0) 79 19 (dt699 79 17)) 80 4 := rfl
                have w815 : (u2 (u2 (u2 dt699 79 12 0) 79 19 (dt699 79 17)) 79 21 (-1)) 80 5 = (u2 (u2 dt699 79 12 0) 79 19 (dt699 79 17)) 80 5 := rfl
                have E84816 : (u2 (u2 (u2 dt699 79 12 0) 79 19 (dt699 79 17)) 79 21 (-1)) 84 = dt699 84 := (funext fun _ => u2_ne (by omega)).trans E84757
                refine go_smp (L' := [some (.inr (.inr (some 79))), some (.inl p1), some (.inl p2), some (.inl l75_3)]) (st' := []) (w' := (SH, (u2 (u2 (u2 dt699 79 12 0) 79 19 (dt699 79 17)) 79 21 (-1)))) rfl rfl (s_pf rfl rfl rfl rfl ⟨by omega, by omega⟩) ?_
                refine go_if (k := 2) (p1 := 158) (p2 := 156) (L' := [some (.inr (.inr (some 79))), some (.inl p1), some (.inl p2), some (.inl l75_3)]) (st' := []) (w' := (SH, (u2 (u2 (u2 dt699 79 12 0) 79 19 (dt699 79 17)) 79 21 (-1)))) (fun _ => rfl) (z_ne (a := l75_3) ⟨by omega, by omega⟩) (fun c817 => ?_) (fun c817 => ?_)
                · skip
                  refine go_to (k := 2) (pc' := 160) (L' := [some (.inr (.inr (some 79))), some (.inl p1), some (.inl p2), some (.inl l75_3)]) (st' := [.inl p2, .inr (.inr (some 79))]) (w' := (SH, (u2 (u2 (u2 dt699 79 12 0) 79 19 (dt699 79 17)) 79 21 (-1)))) (fun _ => rfl) ?_
                  refine go_call (Q' := _) rfl rfl rfl rfl rfl (sp_X6_keeps_k0 L xs sio (d + 37) (u2 (u2 (u2 dt699 79 12 0) 79 19 (dt699 79 17)) 79 21 (-1)) hI798 hM_dt699  p2 ⟨by omega, by omega⟩ (by first | trivial | omega | exact hI4 (by omega) (by omega) | exact hI5 (by omega) (by omega)) (by first | trivial | omega | exact hI4 (by omega) (by omega) | exact hI5 (by omega) (by omega)) (by first | trivial | omega | exact hI4 (by omega) (by omega) | exact hI5 (by omega) (by omega))) ?_
                  rintro _ _ ⟨dt819, rfl, hI820, hF821, h818⟩
                  refine ⟨rfl, ?_⟩
                  have hF822 : Fr [79, 80, 82, 83, 84] dt dt819 := Fr_tr hF799 hF821 (by decide)
                  have w823 : dt819 79 2 = (u2 (u2 (u2 dt699 79 12 0) 79 19 (dt699 79 17)) 79 21 (-1)) 79 2 := hF821 79 (by decide) 2
                  have w824 : dt819 79 9 = (u2 (u2 (u2 dt699 79 12 0) 79 19 (dt699 79 17)) 79 21 (-1)) 79 9 := hF821 79 (by decide) 9
                  have w825 : dt819 79 10 = (u2 (u2 (u2 dt699 79 12 0) 79 19 (dt699 79 17)) 79 21 (-1)) 79 10 := hF821 79 (by decide) 10
                  have w826 : dt819 79 11 = (u2 (u2 (u2 dt699 79 12 0) 79 19 (dt699 79 17)) 79 21 (-1)) 79 11 := hF821 79 (by decide) 11
                  have w827 : dt819 79 12 = (u2 (u2 (u2 dt699 79 12 0) 79 19 (dt699 79 17)) 79 21 (-1)) 79 12 := hF821 79 (by decide) 12
                  have w828 : dt819 79 13 = (u2 (u2 (u2 dt699 79 12 0) 79 19 (dt699 79 17)) 79 21 (-1)) 79 13 := hF821 79 (by decide) 13
                  have w829 : dt819 79 14 = (u2 (u2 (u2 dt699 79 12 0) 79 19 (dt699 79 17)) 79 21 (-1)) 79 14 := hF821 79 (by decide) 14
                  have w830 : dt819 79 15 = (u2 (u2 (u2 dt699 79 12 0) 79 19 (dt699 79 17)) 79 21 (-1)) 79 15 := hF821 79 (by decide) 15
                  have w831 : dt819 79 16 = (u2 (u2 (u2 dt699 79 12 0) 79 19 (dt699 79 17)) 79 21 (-1)) 79 16 := hF821 79 (by decide) 16
                  have w832 : dt819 79 20 = (u2 (u2 (u2 dt699 79 12 0) 79 19 (dt699 79 17)) 79 21 (-1)) 79 20 := hF821 79 (by decide) 20
                  have E84833 : dt819 84 = dt699 84 := (funext (hF821 84 (by decide))).trans E84816
                  rcases h818 with ⟨rfl, h818⟩
                  have hM834 : MW (dt819 80) := h818.1
                  obtain ⟨h818_0, h818_1, h818_2, h818_3, h818_4, h818_5, h818_6⟩ := h818
                  have r835 : 0 ≤ dt819 79 10 ∧ dt819 79 10 ≤ 24 := InvC_get hI820 79 10 rfl rfl
                  refine go_ret (k := 3) (r := some (.inl (dt819 79 10))) (w1 := (SH, dt819)) (fun _ => rfl) ?_
                  exact ⟨dt819, rfl, hI820, hF822, ⟨_, rfl, ⟨by omega, by omega⟩, ⟨by first | trivial | omega, by first | trivial | omega, by first | assumption | exact hM, by first | trivial | omega, by first | trivial | omega, by first | trivial | omega, by first | trivial | omega, by first | trivial | omega, by first | trivial | omega⟩⟩⟩
                · exfalso; omega
            · skip
              have r836 : (-2147483648) ≤ dt699 79 14 ∧ dt699 79 14 ≤ 2147483647 := InvC_get hI700 79 14 rfl rfl
              refine go_if (k := 3) (p1 := 123) (p2 := 86) (L' := [some (.inr (.inr (some 79))), some (.inl p1), some (.inl p2), some (.inl l75_3)]) (st' := []) (w' := (SH, dt699)) (fun _ => rfl) (z_eq (a := dt699 79 14) ⟨by omega, by omega⟩) (fun c837 => ?_) (fun c837 => ?_)
              · skip
                refine go_to (k := 2) (pc' := 125) (L' := [some (.inr (.inr (some 79))), some (.inl p1), some (.inl p2), some (.inl l75_3)]) (st' := [.inl 0, .inr (.inr (some 79))]) (w' := (SH, dt699)) (fun _ => rfl) ?_
                have hI838 : InvC (u2 dt699 79 12 0) := InvC_u2 hI700 (lo := 0) (hi := 500) rfl rfl rfl (by omega) (by omega)
                have hF839 : Fr [79, 80, 82, 83, 84] dt (u2 dt699 79 12 0) := Fr_u2 hF701 (by decide)
                have w840 : (u2 dt699 79 12 0) 79 2 = dt699 79 2 := rfl
                have w841 : (u2 dt699 79 12 0) 79 9 = dt699 79 9 := rfl
                have w842 : (u2 dt699 79 12 0) 79 10 = dt699 79 10 := rfl
                have w843 : (u2 dt699 79 12 0) 79 11 = dt699 79 11 := rfl
                have w844 : (u2 dt699 79 12 0) 79 12 = 0 := rfl
                have w845 : (u2 dt699 79 12 0) 79 13 = dt699 79 13 := rfl
                have w846 : (u2 dt699 79 12 0) 79 14 = dt699 79 14 := rfl
                have w847 : (u2 dt699 79 12 0) 79 15 = dt699 79 15 := rfl
                have w848 : (u2 dt699 79 12 0) 79 16 = dt699 79 16 := rfl
                have w849 : (u2 dt699 79 12 0) 79 20 = dt699 79 20 := rfl
                have w850 : (u2 dt699 79 12 0) 80 0 = dt699 80 0 := rfl
                have w851 : (u2 dt699 79 12 0) 80 1 = dt699 80 1 := rfl
                have w852 : (u2 dt699 79 12 0) 80 2 = dt699 80 2 := rfl
                have w853 : (u2 dt699 79 12 0) 80 3 = dt699 80 3 := rfl
                have w854 : (u2 dt699 79 12 0) 80 4 = dt699 80 4 := rfl
                have w855 : (u2 dt699 79 12 0) 80 5 = dt699 80 5 := rfl
                have E84856 : (u2 dt699 79 12 0) 84 = dt699 84 := funext fun _ => u2_ne (by omega)
                refine go_smp (L' := [some (.inr (.inr (some 79))), some (.inl p1), some (.inl p2), some (.inl l75_3)]) (st' := []) (w' := (SH, (u2 dt699 79 12 0))) rfl rfl (s_pf rfl rfl rfl rfl ⟨by omega, by omega⟩) ?_
                have r857 : (-2147483648) ≤ dt699 79 17 ∧ dt699 79 17 ≤ 2147483647 := InvC_get hI700 79 17 rfl rfl
                refine go_to (k := 3) (pc' := 133) (L' := [some (.inr (.inr (some 79))), some (.inl p1), some (.inl p2), some (.inl l75_3)]) (st' := [.inl (dt699 79 17), .inr (.inr (some 79))]) (w' := (SH, (u2 dt699 79 12 0))) (fun _ => rfl) ?_
                have hI858 : InvC (u2 (u2 dt699 79 12 0) 79 19 (dt699 79 17)) := InvC_u2 hI838 (lo := -2147483648) (hi := 2147483647) rfl rfl rfl (by omega) (by omega)
                have hF859 : Fr [79, 80, 82, 83, 84] dt (u2 (u2 dt699 79 12 0) 79 19 (dt699 79 17)) := Fr_u2 hF839 (by decide)
                have w860 : (u2 (u2 dt699 79 12 0) 79 19 (dt699 79 17)) 79 2 = (u2 dt699 79 12 0) 79 2 := rfl
                have w861 : (u2 (u2 dt699 79 12 0) 79 19 (dt699 79 17)) 79 9 = (u2 dt699 79 12 0) 79 9 := rfl
                have w862 : (u2 (u2 dt699 79 12 0) 79 19 (dt699 79 17)) 79 10 = (u2 dt699 79 12 0) 79 10 := rfl
                have w863 : (u2 (u2 dt699 79 12 0) 79 19 (dt699 79 17)) 79 11 = (u2 dt699 79 12 0) 79 11 := rfl
                have w864 : (u2 (u2 dt699 79 12 0) 79 19 (dt699 79 17)) 79 12 = (u2 dt699 79 12 0) 79 12 := rfl
                have w865 : (u2 (u2 dt699 79 12 0) 79 19 (dt699 79 17)) 79 13 = (u2 dt699 79 12 0) 79 13 := rfl
                have w866 : (u2 (u2 dt699 79 12 0) 79 19 (dt699 79 17)) 79 14 = (u2 dt699 79 12 0) 79 14 := rfl
                have w867 : (u2 (u2 dt699 79 12 0) 79 19 (dt699 79 17)) 79 15 = (u2 dt699 79 12 0) 79 15 := rfl
                have w868 : (u2 (u2 dt699 79 12 0) 79 19 (dt699 79 17)) 79 16 = (u2 dt699 79 12 0) 79 16 := rfl
                have w869 : (u2 (u2 dt699 79 12 0) 79 19 (dt699 79 17)) 79 20 = (u2 dt699 79 12 0) 79 20 := rfl
                have w870 : (u2 (u2 dt699 79 12 0) 79 19 (dt699 79 17)) 80 0 = (u2 dt699 79 12 0) 80 0 := rfl
                have w871 : (u2 (u2 dt699 79 12 0) 79 19 (dt699 79 17)) 80 1 = (u2 dt699 79 12 0) 80 1 := rfl
                have w872 : (u2 (u2 dt699 79 12 0) 79 19 (dt699 79 17)) 80 2 = (u2 dt699 79 12 0) 80 2 := rfl
                have w873 : (u2 (u2 dt699 79 12 0) 79 19 (dt699 79 17)) 80 3 = (u2 dt699 79 12 0) 80 3 := rfl
                have w874 : (u2 (u2 dt699 79 12 0) 79 19 (dt699 79 17)) 80 4 = (u2 dt699 79 12 0) 80 4 := rfl
                have w875 : (u2 (u2 dt699 79 12 0) 79 19 (dt699 79 17)) 80 5 = (u2 dt699 79 12 0) 80 5 := rfl
                have E84876 : (u2 (u2 dt699 79 12 0) 79 19 (dt699 79 17)) 84 = dt699 84 := (funext fun _ => u2_ne (by omega)).trans E84856
                refine go_smp (L' := [some (.inr (.inr (some 79))), some (.inl p1), some (.inl p2), some (.inl l75_3)]) (st' := []) (w' := (SH, (u2 (u2 dt699 79 12 0) 79 19 (dt699 79 17)))) rfl rfl (s_pf rfl rfl rfl rfl ⟨by omega, by omega⟩) ?_
                refine go_if (k := 3) (p1 := 145) (p2 := 141) (L' := [some (.inr (.inr (some 79))), some (.inl p1), some (.inl p2), some (.inl l75_3)]) (st' := [.inr (.inr (some 79))]) (w' := (SH, (u2 (u2 dt699 79 12 0) 79 19 (dt699 79 17)))) (fun _ => rfl) (z_eq (a := l75_3) ⟨by omega, by omega⟩) (fun c877 => ?_) (fun c877 => ?_)
                · exfalso; omega
                · skip
                  refine go_to (k := 2) (pc' := 149) (L' := [some (.inr (.inr (some 79))), some (.inl p1), some (.inl p2), some (.inl l75_3)]) (st' := [.inl (-1), .inr (.inr (some 79))]) (w' := (SH, (u2 (u2 dt699 79 12 0) 79 19 (dt699 79 17)))) (fun _ => rfl) ?_
                  have hI878 : InvC (u2 (u2 (u2 dt699 79 12 0) 79 19 (dt699 79 17)) 79 21 (-1)) := InvC_u2 hI858 (lo := -2147483648) (hi := 2147483647) rfl rfl rfl (by omega) (by omega)
                  have hF879 : Fr [79, 80, 82, 83, 84] dt (u2 (u2 (u2 dt699 79 12 0) 79 19 (dt699 79 17)) 79 21 (-1)) := Fr_u2 hF859 (by decide)
                  have w880 : (u2 (u2 (u2 dt699 79 12 0) 79 19 (dt699 79 17)) 79 21 (-1)) 79 2 = (u2 (u2 dt699 79 12 0) 79 19 (dt699 79 17)) 79 2 := rfl
                  have w881 : (u2 (u2 (u2 dt699 79 12 0) 79 19 (dt699 79 17)) 79 21 (-1)) 79 9 = (u2 (u2 dt699 79 12 0) 79 19 (dt699 79 17)) 79 9 := rfl
                  have w882 : (u2 (u2 (u2 dt699 79 12 0) 79 19 (dt699 79 17)) 79 21 (-1)) 79 10 = (u2 (u2 dt699 79 12 0) 79 19 (dt699 79 17)) 79 10 := rfl
                  have w883 : (u2 (u2 (u2 dt699 79 12 0) 79 19 (dt699 79 17)) 79 21 (-1)) 79 11 = (u2 (u2 dt699 79 12 0) 79 19 (dt699 79 17)) 79 11 := rfl
                  have w884 : (u2 (u2 (u2 dt699 79 12 0) 79 19 (dt699 79 17)) 79 21 (-1)) 79 12 = (u2 (u2 dt699 79 12 0) 79 19 (dt699 79 17)) 79 12 := rfl
                  have w885 : (u2 (u2 (u2 dt699 79 12 0) 79 19 (dt699 79 17)) 79 21 (-1)) 79 13 = (u2 (u2 dt699 79 12 0) 79 19 (dt699 79 17)) 79 13 := rfl
                  have w886 : (u2 (u2 (u2 dt699 79 12 0) 79 19 (dt699 79 17)) 79 21 (-1)) 79 14 = (u2 (u2 dt699 79 12 0) 79 19 (dt699 79 17)) 79 14 := rfl
                  have w887 : (u2 (u2 (u2 dt699 79 12 0) 79 19 (dt699 79 17)) 79 21 (-1)) 79 15 = (u2 (u2 dt699 79 12 0) 79 19 (dt699 79 17)) 79 15 := rfl
                  have w888 : (u2 (u2 (u2 dt699 79 12 0) 79 19 (dt699 79 17)) 79 21 (-1)) 79 16 = (u2 (u2 dt699 79 12 0) 79 19 (dt699 79 17)) 79 16 := rfl
                  have w889 : (u2 (u2 (u2 dt699 79 12 0) 79 19 (dt699 79 17)) 79 21 (-1)) 79 20 = (u2 (u2 dt699 79 12 0) 79 19 (dt699 79 17)) 79 20 := rfl
                  have w890 : (u2 (u2 (u2 dt699 79 12 0) 79 19 (dt699 79 17)) 79 21 (-1)) 80 0 = (u2 (u2 dt699 79 12 0) 79 19 (dt699 79 17)) 80 0 := rfl
                  have w891 : (u2 (u2 (u2 dt699 79 12 0) 79 19 (dt699 79 17)) 79 21 (-1)) 80 1 = (u2 (u2 dt699 79 12 0) 79 19 (dt699 79 17)) 80 1 := rfl
                  have w892 : (u2 (u2 (u2 dt699 79 12 0) 79 19 (dt699 79 17)) 79 21 (-1)) 80 2 = (u2 (u2 dt699 79 12 0) 79 19 (dt699 79 17)) 80 2 := rfl
                  have w893 : (u2 (u2 (u2 dt699 79 12 0) 79 19 (dt699 79 17)) 79 21 (-1)) 80 3 = (u2 (u2 dt699 79 12 0) 79 19 (dt699 79 17)) 80 3 := rfl
                  have w894 : (u2 (u2 (u2 dt699 79 12 0) 79 19 (dt699 79 17)) 79 21 (-1)) 80 4 = (u2 (u2 dt699 79 12 0) 79 19 (dt699 79 17)) 80 4 := rfl
                  have w895 : (u2 (u2 (u2 dt699 79 12 0) 79 19 (dt699 79 17)) 79 21 (-1)) 80 5 = (u2 (u2 dt699 79 12 0) 79 19 (dt699 79 17)) 80 5 := rfl
                  have E84896 : (u2 (u2 (u2 dt699 79 12 0) 79 19 (dt699 79 17)) 79 21 (-1)) 84 = dt699 84 := (funext fun _ => u2_ne (by omega)).trans E84876
                  refine go_smp (L' := [some (.inr (.inr (some 79))), some (.inl p1), some (.inl p2), some (.inl l75_3)]) (st' := []) (w' := (SH, (u2 (u2 (u2 dt699 79 12 0) 79 19 (dt699 79 17)) 79 21 (-1)))) rfl rfl (s_pf rfl rfl rfl rfl ⟨by omega, by omega⟩) ?_
                  refine go_if (k := 2) (p1 := 158) (p2 := 156) (L' := [some (.inr (.inr (some 79))), some (.inl p1), some (.inl p2), some (.inl l75_3)]) (st' := []) (w' := (SH, (u2 (u2 (u2 dt699 79 12 0) 79 19 (dt699 79 17)) 79 21 (-1)))) (fun _ => rfl) (z_ne (a := l75_3) ⟨by omega, by omega⟩) (fun c897 => ?_) (fun c897 => ?_)
                  · skip
                    refine go_to (k := 2) (pc' := 160) (L' := [some (.inr (.inr (some 79))), some (.inl p1), some (.inl p2), some (.inl l75_3)]) (st' := [.inl p2, .inr (.inr (some 79))]) (w' := (SH, (u2 (u2 (u2 dt699 79 12 0) 79 19 (dt699 79 17)) 79 21 (-1)))) (fun _ => rfl) ?_
                    refine go_call (Q' := _) rfl rfl rfl rfl rfl (sp_X6_keeps_k0 L xs sio (d + 37) (u2 (u2 (u2 dt699 79 12 0) 79 19 (dt699 79 17)) 79 21 (-1)) hI878 hM_dt699  p2 ⟨by omega, by omega⟩ (by first | trivial | omega | exact hI4 (by omega) (by omega) | exact hI5 (by omega) (by omega)) (by first | trivial | omega | exact hI4 (by omega) (by omega) | exact hI5 (by omega) (by omega)) (by first | trivial | omega | exact hI4 (by omega) (by omega) | exact hI5 (by omega) (by omega))) ?_
                    rintro _ _ ⟨dt899, rfl, hI900, hF901, h898⟩
                    refine ⟨rfl, ?_⟩
                    have hF902 : Fr [79, 80, 82, 83, 84] dt dt899 := Fr_tr hF879 hF901 (by decide)
                    have w903 : dt899 79 2 = (u2 (u2 (u2 dt699 79 12 0) 79 19 (dt699 79 17)) 79 21 (-1)) 79 2 := hF901 79 (by decide) 2
                    have w904 : dt899 79 9 = (u2 (u2 (u2 dt699 79 12 0) 79 19 (dt699 79 17)) 79 21 (-1)) 79 9 := hF901 79 (by decide) 9
                    have w905 : dt899 79 10 = (u2 (u2 (u2 dt699 79 12 0) 79 19 (dt699 79 17)) 79 21 (-1)) 79 10 := hF901 79 (by decide) 10
                    have w906 : dt899 79 11 = (u2 (u2 (u2 dt699 79 12 0) 79 19 (dt699 79 17)) 79 21 (-1)) 79 11 := hF901 79 (by decide) 11
                    have w907 : dt899 79 12 = (u2 (u2 (u2 dt699 79 12 0) 79 19 (dt699 79 17)) 79 21 (-1)) 79 12 := hF901 79 (by decide) 12
                    have w908 : dt899 79 13 = (u2 (u2 (u2 dt699 79 12 0) 79 19 (dt699 79 17)) 79 21 (-1)) 79 13 := hF901 79 (by decide) 13
                    have w909 : dt899 79 14 = (u2 (u2 (u2 dt699 79 12 0) 79 19 (dt699 79 17)) 79 21 (-1)) 79 14 := hF901 79 (by decide) 14
                    have w910 : dt899 79 15 = (u2 (u2 (u2 dt699 79 12 0) 79 19 (dt699 79 17)) 79 21 (-1)) 79 15 := hF901 79 (by decide) 15
                    have w911 : dt899 79 16 = (u2 (u2 (u2 dt699 79 12 0) 79 19 (dt699 79 17)) 79 21 (-1)) 79 16 := hF901 79 (by decide) 16
                    have w912 : dt899 79 20 = (u2 (u2 (u2 dt699 79 12 0) 79 19 (dt699 79 17)) 79 21 (-1)) 79 20 := hF901 79 (by decide) 20
                    have E84913 : dt899 84 = dt699 84 := (funext (hF901 84 (by decide))).trans E84896
                    rcases h898 with ⟨rfl, h898⟩
                    have hM914 : MW (dt899 80) := h898.1
                    obtain ⟨h898_0, h898_1, h898_2, h898_3, h898_4, h898_5, h898_6⟩ := h898
                    have r915 : 0 ≤ dt899 79 10 ∧ dt899 79 10 ≤ 24 := InvC_get hI900 79 10 rfl rfl
                    refine go_ret (k := 3) (r := some (.inl (dt899 79 10))) (w1 := (SH, dt899)) (fun _ => rfl) ?_
                    exact ⟨dt899, rfl, hI900, hF902, ⟨_, rfl, ⟨by omega, by omega⟩, ⟨by first | trivial | omega, by first | trivial | omega, by first | assumption | exact hM, by first | trivial | omega, by first | trivial | omega, by first | trivial | omega, by first | trivial | omega, by first | trivial | omega, by first | trivial | omega⟩⟩⟩
                  · exfalso; omega
              · skip
                refine go_if (k := 2) (p1 := 97) (p2 := 90) (L' := [some (.inr (.inr (some 79))), some (.inl p1), some (.inl p2), some (.inl l75_3)]) (st' := []) (w' := (SH, dt699)) (fun _ => rfl) (z_ne (a := p1) ⟨by omega, by omega⟩) (fun c916 => ?_) (fun c916 => ?_)
                · skip
                  refine go_to (k := 1) (pc' := 98) (L' := [some (.inr (.inr (some 79))), some (.inl p1), some (.inl p2), some (.inl l75_3)]) (st' := [.inr (.inr (some 79))]) (w' := (SH, dt699)) (fun _ => rfl) ?_
                  refine go_call (Q' := _) rfl rfl rfl rfl rfl (sp_X6_aLine L xs sio (d + 0) dt699 hI700   (by first | trivial | omega | exact hI4 (by omega) (by omega) | exact hI5 (by omega) (by omega)) (by first | trivial | omega | exact hI4 (by omega) (by omega) | exact hI5 (by omega) (by omega)) (by first | trivial | omega | exact hI4 (by omega) (by omega) | exact hI5 (by omega) (by omega))) ?_
                  rintro _ _ ⟨dt918, rfl, hI919, hF920, h917⟩
                  refine ⟨rfl, ?_⟩
                  have hF921 : Fr [79, 80, 82, 83, 84] dt dt918 := Fr_tr hF701 hF920 (by decide)
                  have hM922 : MW (dt918 80) := MW_fr hM_dt699 hF920 (by decide)
                  have w923 : dt918 80 0 = dt699 80 0 := hF920 80 (by decide) 0
                  have w924 : dt918 80 1 = dt699 80 1 := hF920 80 (by decide) 1
                  have w925 : dt918 80 2 = dt699 80 2 := hF920 80 (by decide) 2
                  have w926 : dt918 80 3 = dt699 80 3 := hF920 80 (by decide) 3
                  have w927 : dt918 80 4 = dt699 80 4 := hF920 80 (by decide) 4
                  have w928 : dt918 80 5 = dt699 80 5 := hF920 80 (by decide) 5
                  rcases h917 with ⟨rfl, h917⟩ | ⟨rfl, h917⟩
                  · skip
                    obtain ⟨h917_0, h917_1, h917_2⟩ := h917
                    have r929 : 0 ≤ dt918 79 10 ∧ dt918 79 10 ≤ 24 := InvC_get hI919 79 10 rfl rfl
                    refine go_to (k := 8) (pc' := 117) (L' := [some (.inr (.inr (some 79))), some (.inl p1), some (.inl p2), some (.inl 0)]) (st' := [.inl ((dt918 79 10) + 0), .inr (.inr (some 79))]) (w' := (SH, dt918)) (fun _ => rfl) ?_
                    have hI930 : InvC (u2 dt918 79 10 ((dt918 79 10) + 0)) := InvC_u2 hI919 (lo := 0) (hi := 24) rfl rfl rfl (by omega) (by omega)
                    have hF931 : Fr [79, 80, 82, 83, 84] dt (u2 dt918 79 10 ((dt918 79 10) + 0)) := Fr_u2 hF921 (by decide)
                    have w932 : (u2 dt918 79 10 ((dt918 79 10) + 0)) 79 2 = dt918 79 2 := rfl
                    have w933 : (u2 dt918 79 10 ((dt918 79 10) + 0)) 79 9 = dt918 79 9 := rfl
                    have w934 : (u2 dt918 79 10 ((dt918 79 10) + 0)) 79 10 = (dt918 79 10) + 0 := rfl
                    have w935 : (u2 dt918 79 10 ((dt918 79 10) + 0)) 79 11 = dt918 79 11 := rfl
                    have w936 : (u2 dt918 79 10 ((dt918 79 10) + 0)) 79 12 = dt918 79 12 := rfl
                    have w937 : (u2 dt918 79 10 ((dt918 79 10) + 0)) 79 13 = dt918 79 13 := rfl
                    have w938 : (u2 dt918 79 10 ((dt918 79 10) + 0)) 79 14 = dt918 79 14 := rfl
                    have w939 : (u2 dt918 79 10 ((dt918 79 10) + 0)) 79 15 = dt918 79 15 := rfl
                    have w940 : (u2 dt918 79 10 ((dt918 79 10) + 0)) 79 16 = dt918 79 16 := rfl
                    have w941 : (u2 dt918 79 10 ((dt918 79 10) + 0)) 79 20 = dt918 79 20 := rfl
                    have w942 : (u2 dt918 79 10 ((dt918 79 10) + 0)) 80 0 = dt918 80 0 := rfl
                    have w943 : (u2 dt918 79 10 ((dt918 79 10) + 0)) 80 1 = dt918 80 1 := rfl
                    have w944 : (u2 dt918 79 10 ((dt918 79 10) + 0)) 80 2 = dt918 80 2 := rfl
                    have w945 : (u2 dt918 79 10 ((dt918 79 10) + 0)) 80 3 = dt918 80 3 := rfl
                    have w946 : (u2 dt918 79 10 ((dt918 79 10) + 0)) 80 4 = dt918 80 4 := rfl
                    have w947 : (u2 dt918 79 10 ((dt918 79 10) + 0)) 80 5 = dt918 80 5 := rfl
                    have E84948 : (u2 dt918 79 10 ((dt918 79 10) + 0)) 84 = dt918 84 := funext fun _ => u2_ne (by omega)
                    refine go_smp (L' := [some (.inr (.inr (some 79))), some (.inl p1), some (.inl p2), some (.inl 0)]) (st' := []) (w' := (SH, (u2 dt918 79 10 ((dt918 79 10) + 0)))) rfl rfl (s_pf rfl rfl rfl rfl ⟨by omega, by omega⟩) ?_
                    refine go_to (k := 1) (pc' := 75) (L' := [some (.inr (.inr (some 79))), some (.inl p1), some (.inl p2), some (.inl 0)]) (st' := []) (w' := (SH, (u2 dt918 79 10 ((dt918 79 10) + 0)))) (fun _ => rfl) ?_
                    exact GO.le (ih_loop717 0 (u2 dt918 79 10 ((dt918 79 10) + 0)) hI930 hF931 hM922 (by omega) (by omega) (by omega) (by omega) (by omega) (by intro _ hz; first | omega | exact ARW_0 (by omega) | exact ARW_s (hI4 (by omega) hz) (by omega) (by assumption) (by assumption) (by omega)) (by intro _ hz; first | omega | exact LRW_0 (by omega) | exact LRW_s (hI5 (by omega) hz) (by omega) (by assumption) (by assumption) (by assumption) (by omega) (by omega)) (by omega) (by omega) (by omega) (by omega) (by omega) (by omega) (by omega) (by omega) (by omega)) ⟨.inl rfl, .inl rfl, .inl rfl, .inl rfl, trivial⟩
                  · skip
                    obtain ⟨h917_0, h917_1, h917_2, h917_3, h917_4, h917_5, h917_6, h917_7, h917_8, h917_9, h917_10, h917_11, h917_12⟩ := h917
                    have r949 : 0 ≤ dt918 79 10 ∧ dt918 79 10 ≤ 24 := InvC_get hI919 79 10 rfl rfl
                    refine go_to (k := 9) (pc' := 117) (L' := [some (.inr (.inr (some 79))), some (.inl p1), some (.inl p2), some (.inl 1)]) (st' := [.inl ((dt918 79 10) + 1), .inr (.inr (some 79))]) (w' := (SH, dt918)) (fun _ => rfl) ?_
                    have hI950 : InvC (u2 dt918 79 10 ((dt918 79 10) + 1)) := InvC_u2 hI919 (lo := 0) (hi := 24) rfl rfl rfl (by omega) (by omega)
                    have hF951 : Fr [79, 80, 82, 83, 84] dt (u2 dt918 79 10 ((dt918 79 10) + 1)) := Fr_u2 hF921 (by decide)
                    have w952 : (u2 dt918 79 10 ((dt918 79 10) + 1)) 79 2 = dt918 79 2 := rfl
                    have w953 : (u2 dt918 79 10 ((dt918 79 10) + 1)) 79 9 = dt918 79 9 := rfl
                    have w954 : (u2 dt918 79 10 ((dt918 79 10) + 1)) 79 10 = (dt918 79 10) + 1 := rfl
                    have w955 : (u2 dt918 79 10 ((dt918 79 10) + 1)) 79 11 = dt918 79 11 := rfl
                    have w956 : (u2 dt918 79 10 ((dt918 79 10) + 1)) 79 12 = dt918 79 12 := rfl
                    have w957 : (u2 dt918 79 10 ((dt918 79 10) + 1)) 79 13 = dt918 79 13 := rfl
                    have w958 : (u2 dt918 79 10 ((dt918 79 10) + 1)) 79 14 = dt918 79 14 := rfl
                    have w959 : (u2 dt918 79 10 ((dt918 79 10) + 1)) 79 15 = dt918 79 15 := rfl
                    have w960 : (u2 dt918 79 10 ((dt918 79 10) + 1)) 79 16 = dt918 79 16 := rfl
                    have w961 : (u2 dt918 79 10 ((dt918 79 10) + 1)) 79 20 = dt918 79 20 := rfl
                    have w962 : (u2 dt918 79 10 ((dt918 79 10) + 1)) 80 0 = dt918 80 0 := rfl
                    have w963 : (u2 dt918 79 10 ((dt918 79 10) + 1)) 80 1 = dt918 80 1 := rfl
                    have w964 : (u2 dt918 79 10 ((dt918 79 10) + 1)) 80 2 = dt918 80 2 := rfl
                    have w965 : (u2 dt918 79 10 ((dt918 79 10) + 1)) 80 3 = dt918 80 3 := rfl
                    have w966 : (u2 dt918 79 10 ((dt918 79 10) + 1)) 80 4 = dt918 80 4 := rfl
                    have w967 : (u2 dt918 79 10 ((dt918 79 10) + 1)) 80 5 = dt918 80 5 := rfl
                    have E84968 : (u2 dt918 79 10 ((dt918 79 10) + 1)) 84 = dt918 84 := funext fun _ => u2_ne (by omega)
                    refine go_smp (L' := [some (.inr (.inr (some 79))), some (.inl p1), some (.inl p2), some (.inl 1)]) (st' := []) (w' := (SH, (u2 dt918 79 10 ((dt918 79 10) + 1)))) rfl rfl (s_pf rfl rfl rfl rfl ⟨by omega, by omega⟩) ?_
                    refine go_to (k := 1) (pc' := 75) (L' := [some (.inr (.inr (some 79))), some (.inl p1), some (.inl p2), some (.inl 1)]) (st' := []) (w' := (SH, (u2 dt918 79 10 ((dt918 79 10) + 1)))) (fun _ => rfl) ?_
                    exact GO.le (ih_loop717 1 (u2 dt918 79 10 ((dt918 79 10) + 1)) hI950 hF951 hM922 (by omega) (by omega) (by omega) (by omega) (by omega) (by intro _ hz; first | omega | exact ARW_0 (by omega) | exact ARW_s (hI4 (by omega) hz) (by omega) (by assumption) (by assumption) (by omega)) (by intro _ hz; first | omega | exact LRW_0 (by omega) | exact LRW_s (hI5 (by omega) hz) (by omega) (by assumption) (by assumption) (by assumption) (by omega) (by omega)) (by omega) (by omega) (by omega) (by omega) (by omega) (by omega) (by omega) (by omega) (by omega)) ⟨.inl rfl, .inl rfl, .inl rfl, .inl rfl, trivial⟩
                · skip
                  refine go_to (k := 1) (pc' := 91) (L' := [some (.inr (.inr (some 79))), some (.inl p1), some (.inl p2), some (.inl l75_3)]) (st' := [.inr (.inr (some 79))]) (w' := (SH, dt699)) (fun _ => rfl) ?_
                  refine go_call (Q' := _) rfl rfl rfl rfl rfl (sp_X6_anAct L xs sio (d + 28) dt699 hI700   (by first | trivial | omega | exact hI4 (by omega) (by omega) | exact hI5 (by omega) (by omega))) ?_
                  rintro _ _ ⟨dt970, rfl, hI971, hF972, h969⟩
                  refine ⟨rfl, ?_⟩
                  have hF973 : Fr [79, 80, 82, 83, 84] dt dt970 := Fr_tr hF701 hF972 (by decide)
                  have hM974 : MW (dt970 80) := MW_fr hM_dt699 hF972 (by decide)
                  have w975 : dt970 80 0 = dt699 80 0 := hF972 80 (by decide) 0
                  have w976 : dt970 80 1 = dt699 80 1 := hF972 80 (by decide) 1
                  have w977 : dt970 80 2 = dt699 80 2 := hF972 80 (by decide) 2
                  have w978 : dt970 80 3 = dt699 80 3 := hF972 80 (by decide) 3
                  have w979 : dt970 80 4 = dt699 80 4 := hF972 80 (by decide) 4
                  have w980 : dt970 80 5 = dt699 80 5 := hF972 80 (by decide) 5
                  have E84981 : dt970 84 = dt699 84 := funext (hF972 84 (by decide))
                  rcases h969 with ⟨rfl, h969⟩ | ⟨rfl, h969⟩
                  · skip
                    obtain ⟨h969_0, h969_1, h969_2⟩ := h969
                    have r982 : 0 ≤ dt970 79 10 ∧ dt970 79 10 ≤ 24 := InvC_get hI971 79 10 rfl rfl
                    refine go_to (k := 9) (pc' := 117) (L' := [some (.inr (.inr (some 79))), some (.inl p1), some (.inl p2), some (.inl 0)]) (st' := [.inl ((dt970 79 10) + 0), .inr (.inr (some 79))]) (w' := (SH, dt970)) (fun _ => rfl) ?_
                    have hI983 : InvC (u2 dt970 79 10 ((dt970 79 10) + 0)) := InvC_u2 hI971 (lo := 0) (hi := 24) rfl rfl rfl (by omega) (by omega)
                    have hF984 : Fr [79, 80, 82, 83, 84] dt (u2 dt970 79 10 ((dt970 79 10) + 0)) := Fr_u2 hF973 (by decide)
                    have w985 : (u2 dt970 79 10 ((dt970 79 10) + 0)) 79 2 = dt970 79 2 := rfl
                    have w986 : (u2 dt970 79 10 ((dt970 79 10) + 0)) 79 9 = dt970 79 9 := rfl
                    have w987 : (u2 dt970 79 10 ((dt970 79 10) + 0)) 79 10 = (dt970 79 10) + 0 := rfl
                    have w988 : (u2 dt970 79 10 ((dt970 79 10) + 0)) 79 11 = dt970 79 11 := rfl
                    have w989 : (u2 dt970 79 10 ((dt970 79 10) + 0)) 79 12 = dt970 79 12 := rfl
                    have w990 : (u2 dt970 79 10 ((dt970 79 10) + 0)) 79 13 = dt970 79 13 := rfl
                    have w991 : (u2 dt970 79 10 ((dt970 79 10) + 0)) 79 14 = dt970 79 14 := rfl
                    have w992 : (u2 dt970 79 10 ((dt970 79 10) + 0)) 79 15 = dt970 79 15 := rfl
                    have w993 : (u2 dt970 79 10 ((dt970 79 10) + 0)) 79 16 = dt970 79 16 := rfl
                    have w994 : (u2 dt970 79 10 ((dt970 79 10) + 0)) 79 20 = dt970 79 20 := rfl
                    have w995 : (u2 dt970 79 10 ((dt970 79 10) + 0)) 80 0 = dt970 80 0 := rfl
                    have w996 : (u2 dt970 79 10 ((dt970 79 10) + 0)) 80 1 = dt970 80 1 := rfl
                    have w997 : (u2 dt970 79 10 ((dt970 79 10) + 0)) 80 2 = dt970 80 2 := rfl
                    have w998 : (u2 dt970 79 10 ((dt970 79 10) + 0)) 80 3 = dt970 80 3 := rfl
                    have w999 : (u2 dt970 79 10 ((dt970 79 10) + 0)) 80 4 = dt970 80 4 := rfl
                    have w1000 : (u2 dt970 79 10 ((dt970 79 10) + 0)) 80 5 = dt970 80 5 := rfl
                    have E841001 : (u2 dt970 79 10 ((dt970 79 10) + 0)) 84 = dt699 84 := (funext fun _ => u2_ne (by omega)).trans E84981
                    refine go_smp (L' := [some (.inr (.inr (some 79))), some (.inl p1), some (.inl p2), some (.inl 0)]) (st' := []) (w' := (SH, (u2 dt970 79 10 ((dt970 79 10) + 0)))) rfl rfl (s_pf rfl rfl rfl rfl ⟨by omega, by omega⟩) ?_
                    refine go_to (k := 1) (pc' := 75) (L' := [some (.inr (.inr (some 79))), some (.inl p1), some (.inl p2), some (.inl 0)]) (st' := []) (w' := (SH, (u2 dt970 79 10 ((dt970 79 10) + 0)))) (fun _ => rfl) ?_
                    exact GO.le (ih_loop717 0 (u2 dt970 79 10 ((dt970 79 10) + 0)) hI983 hF984 hM974 (by omega) (by omega) (by omega) (by omega) (by omega) (by intro _ hz; first | omega | exact ARW_0 (by omega) | exact ARW_s (hI4 (by omega) hz) (by omega) (by assumption) (by assumption) (by omega)) (by intro _ hz; first | omega | exact LRW_0 (by omega) | exact LRW_s (hI5 (by omega) hz) (by omega) (by assumption) (by assumption) (by assumption) (by omega) (by omega)) (by omega) (by omega) (by omega) (by omega) (by omega) (by omega) (by omega) (by omega) (by omega)) ⟨.inl rfl, .inl rfl, .inl rfl, .inl rfl, trivial⟩
                  · skip
                    obtain ⟨h969_0, h969_1, h969_2, h969_3, h969_4, h969_5, h969_6, h969_7, h969_8, h969_9, h969_10⟩ := h969
                    have r1002 : 0 ≤ dt970 79 10 ∧ dt970 79 10 ≤ 24 := InvC_get hI971 79 10 rfl rfl
                    refine go_to (k := 10) (pc' := 117) (L' := [some (.inr (.inr (some 79))), some (.inl p1), some (.inl p2), some (.inl 1)]) (st' := [.inl ((dt970 79 10) + 1), .inr (.inr (some 79))]) (w' := (SH, dt970)) (fun _ => rfl) ?_
                    have hI1003 : InvC (u2 dt970 79 10 ((dt970 79 10) + 1)) := InvC_u2 hI971 (lo := 0) (hi := 24) rfl rfl rfl (by omega) (by omega)
                    have hF1004 : Fr [79, 80, 82, 83, 84] dt (u2 dt970 79 10 ((dt970 79 10) + 1)) := Fr_u2 hF973 (by decide)
                    have w1005 : (u2 dt970 79 10 ((dt970 79 10) + 1)) 79 2 = dt970 79 2 := rfl
                    have w1006 : (u2 dt970 79 10 ((dt970 79 10) + 1)) 79 9 = dt970 79 9 := rfl
                    have w1007 : (u2 dt970 79 10 ((dt970 79 10) + 1)) 79 10 = (dt970 79 10) + 1 := rfl
                    have w1008 : (u2 dt970 79 10 ((dt970 79 10) + 1)) 79 11 = dt970 79 11 := rfl
                    have w1009 : (u2 dt970 79 10 ((dt970 79 10) + 1)) 79 12 = dt970 79 12 := rfl
                    have w1010 : (u2 dt970 79 10 ((dt970 79 10) + 1)) 79 13 = dt970 79 13 := rfl
                    have w1011 : (u2 dt970 79 10 ((dt970 79 10) + 1)) 79 14 = dt970 79 14 := rfl
                    have w1012 : (u2 dt970 79 10 ((dt970 79 10) + 1)) 79 15 = dt970 79 15 := rfl
                    have w1013 : (u2 dt970 79 10 ((dt970 79 10) + 1)) 79 16 = dt970 79 16 := rfl
                    have w1014 : (u2 dt970 79 10 ((dt970 79 10) + 1)) 79 20 = dt970 79 20 := rfl
                    have w1015 : (u2 dt970 79 10 ((dt970 79 10) + 1)) 80 0 = dt970 80 0 := rfl
                    have w1016 : (u2 dt970 79 10 ((dt970 79 10) + 1)) 80 1 = dt970 80 1 := rfl
                    have w1017 : (u2 dt970 79 10 ((dt970 79 10) + 1)) 80 2 = dt970 80 2 := rfl
                    have w1018 : (u2 dt970 79 10 ((dt970 79 10) + 1)) 80 3 = dt970 80 3 := rfl
                    have w1019 : (u2 dt970 79 10 ((dt970 79 10) + 1)) 80 4 = dt970 80 4 := rfl
                    have w1020 : (u2 dt970 79 10 ((dt970 79 10) + 1)) 80 5 = dt970 80 5 := rfl
                    have E841021 : (u2 dt970 79 10 ((dt970 79 10) + 1)) 84 = dt699 84 := (funext fun _ => u2_ne (by omega)).trans E84981
                    refine go_smp (L' := [some (.inr (.inr (some 79))), some (.inl p1), some (.inl p2), some (.inl 1)]) (st' := []) (w' := (SH, (u2 dt970 79 10 ((dt970 79 10) + 1)))) rfl rfl (s_pf rfl rfl rfl rfl ⟨by omega, by omega⟩) ?_
                    refine go_to (k := 1) (pc' := 75) (L' := [some (.inr (.inr (some 79))), some (.inl p1), some (.inl p2), some (.inl 1)]) (st' := []) (w' := (SH, (u2 dt970 79 10 ((dt970 79 10) + 1)))) (fun _ => rfl) ?_
                    exact GO.le (ih_loop717 1 (u2 dt970 79 10 ((dt970 79 10) + 1)) hI1003 hF1004 hM974 (by omega) (by omega) (by omega) (by omega) (by omega) (by intro _ hz; first | omega | exact ARW_0 (by omega) | exact ARW_s (hI4 (by omega) hz) (by omega) (by assumption) (by assumption) (by omega)) (by intro _ hz; first | omega | exact LRW_0 (by omega) | exact LRW_s (hI5 (by omega) hz) (by omega) (by assumption) (by assumption) (by assumption) (by omega) (by omega)) (by omega) (by omega) (by omega) (by omega) (by omega) (by omega) (by omega) (by omega) (by omega)) ⟨.inl rfl, .inl rfl, .inl rfl, .inl rfl, trivial⟩
        exact GO.le (loop717 _ 1 dt577 hI578 hF580 hM581 (by omega) (by omega) (by omega) (by omega) (by omega) (by intro _ hz; first | omega | exact ARW_0 (by omega) | exact ARW_s (hI4 (by omega) hz) (by omega) (by assumption) (by assumption) (by omega)) (by intro _ hz; first | omega | exact LRW_0 (by omega) | exact LRW_s (hI5 (by omega) hz) (by omega) (by assumption) (by assumption) (by assumption) (by omega) (by omega)) (by omega) (by omega) (by omega) (by omega) (by omega) (by omega) (by omega) (by omega) (Nat.lt_succ_self _)) ⟨.inl rfl, .inl rfl, .inl rfl, .inl rfl, trivial⟩
      · skip
        refine go_to (k := 3) (pc' := 34) (L' := [some (.inr (.inr (some 79))), some (.inl p1), some (.inl p2), none]) (st' := [.inl 0, .inr (.inr (some 79))]) (w' := (SH, (u2 dt 79 17 0))) (fun _ => rfl) ?_
        have hI1022 : InvC (u2 (u2 dt 79 17 0) 79 12 0) := InvC_u2 hI4 (lo := 0) (hi := 500) rfl rfl rfl (by omega) (by omega)
        have hF1023 : Fr [79, 80, 82, 83, 84] dt (u2 (u2 dt 79 17 0) 79 12 0) := Fr_u2 hF5 (by decide)
        have w1024 : (u2 (u2 dt 79 17 0) 79 12 0) 79 2 = (u2 dt 79 17 0) 79 2 := rfl
        have w1025 : (u2 (u2 dt 79 17 0) 79 12 0) 79 9 = (u2 dt 79 17 0) 79 9 := rfl
        have w1026 : (u2 (u2 dt 79 17 0) 79 12 0) 79 10 = (u2 dt 79 17 0) 79 10 := rfl
        have w1027 : (u2 (u2 dt 79 17 0) 79 12 0) 79 11 = (u2 dt 79 17 0) 79 11 := rfl
        have w1028 : (u2 (u2 dt 79 17 0) 79 12 0) 79 12 = 0 := rfl
        have w1029 : (u2 (u2 dt 79 17 0) 79 12 0) 79 13 = (u2 dt 79 17 0) 79 13 := rfl
        have w1030 : (u2 (u2 dt 79 17 0) 79 12 0) 79 14 = (u2 dt 79 17 0) 79 14 := rfl
        have w1031 : (u2 (u2 dt 79 17 0) 79 12 0) 79 15 = (u2 dt 79 17 0) 79 15 := rfl
        have w1032 : (u2 (u2 dt 79 17 0) 79 12 0) 79 16 = (u2 dt 79 17 0) 79 16 := rfl
        have w1033 : (u2 (u2 dt 79 17 0) 79 12 0) 79 20 = (u2 dt 79 17 0) 79 20 := rfl
        have w1034 : (u2 (u2 dt 79 17 0) 79 12 0) 80 0 = (u2 dt 79 17 0) 80 0 := rfl
        have w1035 : (u2 (u2 dt 79 17 0) 79 12 0) 80 1 = (u2 dt 79 17 0) 80 1 := rfl
        have w1036 : (u2 (u2 dt 79 17 0) 79 12 0) 80 2 = (u2 dt 79 17 0) 80 2 := rfl
        have w1037 : (u2 (u2 dt 79 17 0) 79 12 0) 80 3 = (u2 dt 79 17 0) 80 3 := rfl
        have w1038 : (u2 (u2 dt 79 17 0) 79 12 0) 80 4 = (u2 dt 79 17 0) 80 4 := rfl
        have w1039 : (u2 (u2 dt 79 17 0) 79 12 0) 80 5 = (u2 dt 79 17 0) 80 5 := rfl
        have E841040 : (u2 (u2 dt 79 17 0) 79 12 0) 84 = dt 84 := (funext fun _ => u2_ne (by omega)).trans E8422
        refine go_smp (L' := [some (.inr (.inr (some 79))), some (.inl p1), some (.inl p2), none]) (st' := []) (w' := (SH, (u2 (u2 dt 79 17 0) 79 12 0))) rfl rfl (s_pf rfl rfl rfl rfl ⟨by omega, by omega⟩) ?_
        refine go_to (k := 2) (pc' := 39) (L' := [some (.inr (.inr (some 79))), some (.inl p1), some (.inl p2), none]) (st' := [.inl 0, .inr (.inr (some 79))]) (w' := (SH, (u2 (u2 dt 79 17 0) 79 12 0))) (fun _ => rfl) ?_
        have hI1041 : InvC (u2 (u2 (u2 dt 79 17 0) 79 12 0) 79 19 0) := InvC_u2 hI1022 (lo := -2147483648) (hi := 2147483647) rfl rfl rfl (by omega) (by omega)
        have hF1042 : Fr [79, 80, 82, 83, 84] dt (u2 (u2 (u2 dt 79 17 0) 79 12 0) 79 19 0) := Fr_u2 hF1023 (by decide)
        have w1043 : (u2 (u2 (u2 dt 79 17 0) 79 12 0) 79 19 0) 79 2 = (u2 (u2 dt 79 17 0) 79 12 0) 79 2 := rfl
        have w1044 : (u2 (u2 (u2 dt 79 17 0) 79 12 0) 79 19 0) 79 9 = (u2 (u2 dt 79 17 0) 79 12 0) 79 9 := rfl
        have w1045 : (u2 (u2 (u2 dt 79 17 0) 79 12 0) 79 19 0) 79 10 = (u2 (u2 dt 79 17 0) 79 12 0) 79 10 := rfl
        have w1046 : (u2 (u2 (u2 dt 79 17 0) 79 12 0) 79 19 0) 79 11 = (u2 (u2 dt 79 17 0) 79 12 0) 79 11 := rfl
        have w1047 : (u2 (u2 (u2 dt 79 17 0) 79 12 0) 79 19 0) 79 12 = (u2 (u2 dt 79 17 0) 79 12 0) 79 12 := rfl
        have w1048 : (u2 (u2 (u2 dt 79 17 0) 79 12 0) 79 19 0) 79 13 = (u2 (u2 dt 79 17 0) 79 12 0) 79 13 := rfl
        have w1049 : (u2 (u2 (u2 dt 79 17 0) 79 12 0) 79 19 0) 79 14 = (u2 (u2 dt 79 17 0) 79 12 0) 79 14 := rfl
        have w1050 : (u2 (u2 (u2 dt 79 17 0) 79 12 0) 79 19 0) 79 15 = (u2 (u2 dt 79 17 0) 79 12 0) 79 15 := rfl
        have w1051 : (u2 (u2 (u2 dt 79 17 0) 79 12 0) 79 19 0) 79 16 = (u2 (u2 dt 79 17 0) 79 12 0) 79 16 := rfl
        have w1052 : (u2 (u2 (u2 dt 79 17 0) 79 12 0) 79 19 0) 79 20 = (u2 (u2 dt 79 17 0) 79 12 0) 79 20 := rfl
        have w1053 : (u2 (u2 (u2 dt 79 17 0) 79 12 0) 79 19 0) 80 0 = (u2 (u2 dt 79 17 0) 79 12 0) 80 0 := rfl
        have w1054 : (u2 (u2 (u2 dt 79 17 0) 79 12 0) 79 19 0) 80 1 = (u2 (u2 dt 79 17 0) 79 12 0) 80 1 := rfl
        have w1055 : (u2 (u2 (u2 dt 79 17 0) 79 12 0) 79 19 0) 80 2 = (u2 (u2 dt 79 17 0) 79 12 0) 80 2 := rfl
        have w1056 : (u2 (u2 (u2 dt 79 17 0) 79 12 0) 79 19 0) 80 3 = (u2 (u2 dt 79 17 0) 79 12 0) 80 3 := rfl
        have w1057 : (u2 (u2 (u2 dt 79 17 0) 79 12 0) 79 19 0) 80 4 = (u2 (u2 dt 79 17 0) 79 12 0) 80 4 := rfl
        have w1058 : (u2 (u2 (u2 dt 79 17 0) 79 12 0) 79 19 0) 80 5 = (u2 (u2 dt 79 17 0) 79 12 0) 80 5 := rfl
        have E841059 : (u2 (u2 (u2 dt 79 17 0) 79 12 0) 79 19 0) 84 = dt 84 := (funext fun _ => u2_ne (by omega)).trans E841040
        refine go_smp (L' := [some (.inr (.inr (some 79))), some (.inl p1), some (.inl p2), none]) (st' := []) (w' := (SH, (u2 (u2 (u2 dt 79 17 0) 79 12 0) 79 19 0))) rfl rfl (s_pf rfl rfl rfl rfl ⟨by omega, by omega⟩) ?_
        refine go_to (k := 2) (pc' := 44) (L' := [some (.inr (.inr (some 79))), some (.inl p1), some (.inl p2), none]) (st' := [.inl (-1), .inr (.inr (some 79))]) (w' := (SH, (u2 (u2 (u2 dt 79 17 0) 79 12 0) 79 19 0))) (fun _ => rfl) ?_
        have hI1060 : InvC (u2 (u2 (u2 (u2 dt 79 17 0) 79 12 0) 79 19 0) 79 21 (-1)) := InvC_u2 hI1041 (lo := -2147483648) (hi := 2147483647) rfl rfl rfl (by omega) (by omega)
        have hF1061 : Fr [79, 80, 82, 83, 84] dt (u2 (u2 (u2 (u2 dt 79 17 0) 79 12 0) 79 19 0) 79 21 (-1)) := Fr_u2 hF1042 (by decide)
        have w1062 : (u2 (u2 (u2 (u2 dt 79 17 0) 79 12 0) 79 19 0) 79 21 (-1)) 79 2 = (u2 (u2 (u2 dt 79 17 0) 79 12 0) 79 19 0) 79 2 := rfl
        have w1063 : (u2 (u2 (u2 (u2 dt 79 17 0) 79 12 0) 79 19 0) 79 21 (-1)) 79 9 = (u2 (u2 (u2 dt 79 17 0) 79 12 0) 79 19 0) 79 9 := rfl
        have w1064 : (u2 (u2 (u2 (u2 dt 79 17 0) 79 12 0) 79 19 0) 79 21 (-1)) 79 10 = (u2 (u2 (u2 dt 79 17 0) 79 12 0) 79 19 0) 79 10 := rfl
        have w1065 : (u2 (u2 (u2 (u2 dt 79 17 0) 79 12 0) 79 19 0) 79 21 (-1)) 79 11 = (u2 (u2 (u2 dt 79 17 0) 79 12 0) 79 19 0) 79 11 := rfl
        have w1066 : (u2 (u2 (u2 (u2 dt 79 17 0) 79 12 0) 79 19 0) 79 21 (-1)) 79 12 = (u2 (u2 (u2 dt 79 17 0) 79 12 0) 79 19 0) 79 12 := rfl
        have w1067 : (u2 (u2 (u2 (u2 dt 79 17 0) 79 12 0) 79 19 0) 79 21 (-1)) 79 13 = (u2 (u2 (u2 dt 79 17 0) 79 12 0) 79 19 0) 79 13 := rfl
        have w1068 : (u2 (u2 (u2 (u2 dt 79 17 0) 79 12 0) 79 19 0) 79 21 (-1)) 79 14 = (u2 (u2 (u2 dt 79 17 0) 79 12 0) 79 19 0) 79 14 := rfl
        have w1069 : (u2 (u2 (u2 (u2 dt 79 17 0) 79 12 0) 79 19 0) 79 21 (-1)) 79 15 = (u2 (u2 (u2 dt 79 17 0) 79 12 0) 79 19 0) 79 15 := rfl
        have w1070 : (u2 (u2 (u2 (u2 dt 79 17 0) 79 12 0) 79 19 0) 79 21 (-1)) 79 16 = (u2 (u2 (u2 dt 79 17 0) 79 12 0) 79 19 0) 79 16 := rfl
        have w1071 : (u2 (u2 (u2 (u2 dt 79 17 0) 79 12 0) 79 19 0) 79 21 (-1)) 79 20 = (u2 (u2 (u2 dt 79 17 0) 79 12 0) 79 19 0) 79 20 := rfl
        have w1072 : (u2 (u2 (u2 (u2 dt 79 17 0) 79 12 0) 79 19 0) 79 21 (-1)) 80 0 = (u2 (u2 (u2 dt 79 17 0) 79 12 0) 79 19 0) 80 0 := rfl
        have w1073 : (u2 (u2 (u2 (u2 dt 79 17 0) 79 12 0) 79 19 0) 79 21 (-1)) 80 1 = (u2 (u2 (u2 dt 79 17 0) 79 12 0) 79 19 0) 80 1 := rfl
        have w1074 : (u2 (u2 (u2 (u2 dt 79 17 0) 79 12 0) 79 19 0) 79 21 (-1)) 80 2 = (u2 (u2 (u2 dt 79 17 0) 79 12 0) 79 19 0) 80 2 := rfl
        have w1075 : (u2 (u2 (u2 (u2 dt 79 17 0) 79 12 0) 79 19 0) 79 21 (-1)) 80 3 = (u2 (u2 (u2 dt 79 17 0) 79 12 0) 79 19 0) 80 3 := rfl
        have w1076 : (u2 (u2 (u2 (u2 dt 79 17 0) 79 12 0) 79 19 0) 79 21 (-1)) 80 4 = (u2 (u2 (u2 dt 79 17 0) 79 12 0) 79 19 0) 80 4 := rfl
        have w1077 : (u2 (u2 (u2 (u2 dt 79 17 0) 79 12 0) 79 19 0) 79 21 (-1)) 80 5 = (u2 (u2 (u2 dt 79 17 0) 79 12 0) 79 19 0) 80 5 := rfl
        have E841078 : (u2 (u2 (u2 (u2 dt 79 17 0) 79 12 0) 79 19 0) 79 21 (-1)) 84 = dt 84 := (funext fun _ => u2_ne (by omega)).trans E841059
        refine go_smp (L' := [some (.inr (.inr (some 79))), some (.inl p1), some (.inl p2), none]) (st' := []) (w' := (SH, (u2 (u2 (u2 (u2 dt 79 17 0) 79 12 0) 79 19 0) 79 21 (-1)))) rfl rfl (s_pf rfl rfl rfl rfl ⟨by omega, by omega⟩) ?_
        refine go_ret (k := 2) (r := some (.inl (-1))) (w1 := (SH, (u2 (u2 (u2 (u2 dt 79 17 0) 79 12 0) 79 19 0) 79 21 (-1)))) (fun _ => rfl) ?_
        exact ⟨(u2 (u2 (u2 (u2 dt 79 17 0) 79 12 0) 79 19 0) 79 21 (-1)), rfl, hI1060, hF1061, ⟨_, rfl, ⟨by omega, by omega⟩, ⟨by first | trivial | omega, by first | trivial | omega, by first | assumption | exact hM, by first | trivial | omega, by first | trivial | omega, by first | trivial | omega, by first | trivial | omega, by first | trivial | omega, by first | trivial | omega⟩⟩⟩
  · skip
    refine go_to (k := 3) (pc' := 34) (L' := [some (.inr (.inr (some 79))), some (.inl p1), some (.inl p2), none]) (st' := [.inl 0, .inr (.inr (some 79))]) (w' := (SH, (u2 dt 79 17 0))) (fun _ => rfl) ?_
    have hI1079 : InvC (u2 (u2 dt 79 17 0) 79 12 0) := InvC_u2 hI4 (lo := 0) (hi := 500) rfl rfl rfl (by omega) (by omega)
    have hF1080 : Fr [79, 80, 82, 83, 84] dt (u2 (u2 dt 79 17 0) 79 12 0) := Fr_u2 hF5 (by decide)
    have w1081 : (u2 (u2 dt 79 17 0) 79 12 0) 79 2 = (u2 dt 79 17 0) 79 2 := rfl
    have w1082 : (u2 (u2 dt 79 17 0) 79 12 0) 79 9 = (u2 dt 79 17 0) 79 9 := rfl
    have w1083 : (u2 (u2 dt 79 17 0) 79 12 0) 79 10 = (u2 dt 79 17 0) 79 10 := rfl
    have w1084 : (u2 (u2 dt 79 17 0) 79 12 0) 79 11 = (u2 dt 79 17 0) 79 11 := rfl
    have w1085 : (u2 (u2 dt 79 17 0) 79 12 0) 79 12 = 0 := rfl
    have w1086 : (u2 (u2 dt 79 17 0) 79 12 0) 79 13 = (u2 dt 79 17 0) 79 13 := rfl
    have w1087 : (u2 (u2 dt 79 17 0) 79 12 0) 79 14 = (u2 dt 79 17 0) 79 14 := rfl
    have w1088 : (u2 (u2 dt 79 17 0) 79 12 0) 79 15 = (u2 dt 79 17 0) 79 15 := rfl
    have w1089 : (u2 (u2 dt 79 17 0) 79 12 0) 79 16 = (u2 dt 79 17 0) 79 16 := rfl
    have w1090 : (u2 (u2 dt 79 17 0) 79 12 0) 79 20 = (u2 dt 79 17 0) 79 20 := rfl
    have w1091 : (u2 (u2 dt 79 17 0) 79 12 0) 80 0 = (u2 dt 79 17 0) 80 0 := rfl
    have w1092 : (u2 (u2 dt 79 17 0) 79 12 0) 80 1 = (u2 dt 79 17 0) 80 1 := rfl
    have w1093 : (u2 (u2 dt 79 17 0) 79 12 0) 80 2 = (u2 dt 79 17 0) 80 2 := rfl
    have w1094 : (u2 (u2 dt 79 17 0) 79 12 0) 80 3 = (u2 dt 79 17 0) 80 3 := rfl
    have w1095 : (u2 (u2 dt 79 17 0) 79 12 0) 80 4 = (u2 dt 79 17 0) 80 4 := rfl
    have w1096 : (u2 (u2 dt 79 17 0) 79 12 0) 80 5 = (u2 dt 79 17 0) 80 5 := rfl
    have E841097 : (u2 (u2 dt 79 17 0) 79 12 0) 84 = dt 84 := (funext fun _ => u2_ne (by omega)).trans E8422
    refine go_smp (L' := [some (.inr (.inr (some 79))), some (.inl p1), some (.inl p2), none]) (st' := []) (w' := (SH, (u2 (u2 dt 79 17 0) 79 12 0))) rfl rfl (s_pf rfl rfl rfl rfl ⟨by omega, by omega⟩) ?_
    refine go_to (k := 2) (pc' := 39) (L' := [some (.inr (.inr (some 79))), some (.inl p1), some (.inl p2), none]) (st' := [.inl 0, .inr (.inr (some 79))]) (w' := (SH, (u2 (u2 dt 79 17 0) 79 12 0))) (fun _ => rfl) ?_
    have hI1098 : InvC (u2 (u2 (u2 dt 79 17 0) 79 12 0) 79 19 0) := InvC_u2 hI1079 (lo := -2147483648) (hi := 2147483647) rfl rfl rfl (by omega) (by omega)
    have hF1099 : Fr [79, 80, 82, 83, 84] dt (u2 (u2 (u2 dt 79 17 0) 79 12 0) 79 19 0) := Fr_u2 hF1080 (by decide)
    have w1100 : (u2 (u2 (u2 dt 79 17 0) 79 12 0) 79 19 0) 79 2 = (u2 (u2 dt 79 17 0) 79 12 0) 79 2 := rfl
    have w1101 : (u2 (u2 (u2 dt 79 17 0) 79 12 0) 79 19 0) 79 9 = (u2 (u2 dt 79 17 0) 79 12 0) 79 9 := rfl
    have w1102 : (u2 (u2 (u2 dt 79 17 0) 79 12 0) 79 19 0) 79 10 = (u2 (u2 dt 79 17 0) 79 12 0) 79 10 := rfl
    have w1103 : (u2 (u2 (u2 dt 79 17 0) 79 12 0) 79 19 0) 79 11 = (u2 (u2 dt 79 17 0) 79 12 0) 79 11 := rfl
    have w1104 : (u2 (u2 (u2 dt 79 17 0) 79 12 0) 79 19 0) 79 12 = (u2 (u2 dt 79 17 0) 79 12 0) 79 12 := rfl
    have w1105 : (u2 (u2 (u2 dt 79 17 0) 79 12 0) 79 19 0) 79 13 = (u2 (u2 dt 79 17 0) 79 12 0) 79 13 := rfl
    have w1106 : (u2 (u2 (u2 dt 79 17 0) 79 12 0) 79 19 0) 79 14 = (u2 (u2 dt 79 17 0) 79 12 0) 79 14 := rfl
    have w1107 : (u2 (u2 (u2 dt 79 17 0) 79 12 0) 79 19 0) 79 15 = (u2 (u2 dt 79 17 0) 79 12 0) 79 15 := rfl
    have w1108 : (u2 (u2 (u2 dt 79 17 0) 79 12 0) 79 19 0) 79 16 = (u2 (u2 dt 79 17 0) 79 12 0) 79 16 := rfl
    have w1109 : (u2 (u2 (u2 dt 79 17 0) 79 12 0) 79 19 0) 79 20 = (u2 (u2 dt 79 17 0) 79 12 0) 79 20 := rfl
    have w1110 : (u2 (u2 (u2 dt 79 17 0) 79 12 0) 79 19 0) 80 0 = (u2 (u2 dt 79 17 0) 79 12 0) 80 0 := rfl
    have w1111 : (u2 (u2 (u2 dt 79 17 0) 79 12 0) 79 19 0) 80 1 = (u2 (u2 dt 79 17 0) 79 12 0) 80 1 := rfl
    have w1112 : (u2 (u2 (u2 dt 79 17 0) 79 12 0) 79 19 0) 80 2 = (u2 (u2 dt 79 17 0) 79 12 0) 80 2 := rfl
    have w1113 : (u2 (u2 (u2 dt 79 17 0) 79 12 0) 79 19 0) 80 3 = (u2 (u2 dt 79 17 0) 79 12 0) 80 3 := rfl
    have w1114 : (u2 (u2 (u2 dt 79 17 0) 79 12 0) 79 19 0) 80 4 = (u2 (u2 dt 79 17 0) 79 12 0) 80 4 := rfl
    have w1115 : (u2 (u2 (u2 dt 79 17 0) 79 12 0) 79 19 0) 80 5 = (u2 (u2 dt 79 17 0) 79 12 0) 80 5 := rfl
    have E841116 : (u2 (u2 (u2 dt 79 17 0) 79 12 0) 79 19 0) 84 = dt 84 := (funext fun _ => u2_ne (by omega)).trans E841097
    refine go_smp (L' := [some (.inr (.inr (some 79))), some (.inl p1), some (.inl p2), none]) (st' := []) (w' := (SH, (u2 (u2 (u2 dt 79 17 0) 79 12 0) 79 19 0))) rfl rfl (s_pf rfl rfl rfl rfl ⟨by omega, by omega⟩) ?_
    refine go_to (k := 2) (pc' := 44) (L' := [some (.inr (.inr (some 79))), some (.inl p1), some (.inl p2), none]) (st' := [.inl (-1), .inr (.inr (some 79))]) (w' := (SH, (u2 (u2 (u2 dt 79 17 0) 79 12 0) 79 19 0))) (fun _ => rfl) ?_
    have hI1117 : InvC (u2 (u2 (u2 (u2 dt 79 17 0) 79 12 0) 79 19 0) 79 21 (-1)) := InvC_u2 hI1098 (lo := -2147483648) (hi := 2147483647) rfl rfl rfl (by omega) (by omega)
    have hF1118 : Fr [79, 80, 82, 83, 84] dt (u2 (u2 (u2 (u2 dt 79 17 0) 79 12 0) 79 19 0) 79 21 (-1)) := Fr_u2 hF1099 (by decide)
    have w1119 : (u2 (u2 (u2 (u2 dt 79 17 0) 79 12 0) 79 19 0) 79 21 (-1)) 79 2 = (u2 (u2 (u2 dt 79 17 0) 79 12 0) 79 19 0) 79 2 := rfl
    have w1120 : (u2 (u2 (u2 (u2 dt 79 17 0) 79 12 0) 79 19 0) 79 21 (-1)) 79 9 = (u2 (u2 (u2 dt 79 17 0) 79 12 0) 79 19 0) 79 9 := rfl
    have w1121 : (u2 (u2 (u2 (u2 dt 79 17 0) 79 12 0) 79 19 0) 79 21 (-1)) 79 10 = (u2 (u2 (u2 dt 79 17 0) 79 12 0) 79 19 0) 79 10 := rfl
    have w1122 : (u2 (u2 (u2 (u2 dt 79 17 0) 79 12 0) 79 19 0) 79 21 (-1)) 79 11 = (u2 (u2 (u2 dt 79 17 0) 79 12 0) 79 19 0) 79 11 := rfl
    have w1123 : (u2 (u2 (u2 (u2 dt 79 17 0) 79 12 0) 79 19 0) 79 21 (-1)) 79 12 = (u2 (u2 (u2 dt 79 17 0) 79 12 0) 79 19 0) 79 12 := rfl
    have w1124 : (u2 (u2 (u2 (u2 dt 79 17 0) 79 12 0) 79 19 0) 79 21 (-1)) 79 13 = (u2 (u2 (u2 dt 79 17 0) 79 12 0) 79 19 0) 79 13 := rfl
    have w1125 : (u2 (u2 (u2 (u2 dt 79 17 0) 79 12 0) 79 19 0) 79 21 (-1)) 79 14 = (u2 (u2 (u2 dt 79 17 0) 79 12 0) 79 19 0) 79 14 := rfl
    have w1126 : (u2 (u2 (u2 (u2 dt 79 17 0) 79 12 0) 79 19 0) 79 21 (-1)) 79 15 = (u2 (u2 (u2 dt 79 17 0) 79 12 0) 79 19 0) 79 15 := rfl
    have w1127 : (u2 (u2 (u2 (u2 dt 79 17 0) 79 12 0) 79 19 0) 79 21 (-1)) 79 16 = (u2 (u2 (u2 dt 79 17 0) 79 12 0) 79 19 0) 79 16 := rfl
    have w1128 : (u2 (u2 (u2 (u2 dt 79 17 0) 79 12 0) 79 19 0) 79 21 (-1)) 79 20 = (u2 (u2 (u2 dt 79 17 0) 79 12 0) 79 19 0) 79 20 := rfl
    have w1129 : (u2 (u2 (u2 (u2 dt 79 17 0) 79 12 0) 79 19 0) 79 21 (-1)) 80 0 = (u2 (u2 (u2 dt 79 17 0) 79 12 0) 79 19 0) 80 0 := rfl
    have w1130 : (u2 (u2 (u2 (u2 dt 79 17 0) 79 12 0) 79 19 0) 79 21 (-1)) 80 1 = (u2 (u2 (u2 dt 79 17 0) 79 12 0) 79 19 0) 80 1 := rfl
    have w1131 : (u2 (u2 (u2 (u2 dt 79 17 0) 79 12 0) 79 19 0) 79 21 (-1)) 80 2 = (u2 (u2 (u2 dt 79 17 0) 79 12 0) 79 19 0) 80 2 := rfl
    have w1132 : (u2 (u2 (u2 (u2 dt 79 17 0) 79 12 0) 79 19 0) 79 21 (-1)) 80 3 = (u2 (u2 (u2 dt 79 17 0) 79 12 0) 79 19 0) 80 3 := rfl
    have w1133 : (u2 (u2 (u2 (u2 dt 79 17 0) 79 12 0) 79 19 0) 79 21 (-1)) 80 4 = (u2 (u2 (u2 dt 79 17 0) 79 12 0) 79 19 0) 80 4 := rfl
    have w1134 : (u2 (u2 (u2 (u2 dt 79 17 0) 79 12 0) 79 19 0) 79 21 (-1)) 80 5 = (u2 (u2 (u2 dt 79 17 0) 79 12 0) 79 19 0) 80 5 := rfl
    have E841135 : (u2 (u2 (u2 (u2 dt 79 17 0) 79 12 0) 79 19 0) 79 21 (-1)) 84 = dt 84 := (funext fun _ => u2_ne (by omega)).trans E841116
    refine go_smp (L' := [some (.inr (.inr (some 79))), some (.inl p1), some (.inl p2), none]) (st' := []) (w' := (SH, (u2 (u2 (u2 (u2 dt 79 17 0) 79 12 0) 79 19 0) 79 21 (-1)))) rfl rfl (s_pf rfl rfl rfl rfl ⟨by omega, by omega⟩) ?_
    refine go_ret (k := 2) (r := some (.inl (-1))) (w1 := (SH, (u2 (u2 (u2 (u2 dt 79 17 0) 79 12 0) 79 19 0) 79 21 (-1)))) (fun _ => rfl) ?_
    exact ⟨(u2 (u2 (u2 (u2 dt 79 17 0) 79 12 0) 79 19 0) 79 21 (-1)), rfl, hI1117, hF1118, ⟨_, rfl, ⟨by omega, by omega⟩, ⟨by first | trivial | omega, by first | trivial | omega, by first | assumption | exact hM, by first | trivial | omega, by first | trivial | omega, by first | trivial | omega, by first | trivial | omega, by first | trivial | omega, by first | trivial | omega⟩⟩⟩
