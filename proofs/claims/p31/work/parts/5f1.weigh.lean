theorem sp_X3_give_g0 (L : Nat) (xs : Nat → Int32) (sio : Option Nat) (d : Nat) (dt : Nat → Nat → Int) (hI : InvC dt)  (p2 : Int) (h_p2 : (-2147483648) ≤ p2 ∧ p2 ≤ 2147483647)  : GO (am_XX L xs sio) (d) 44 0 [some (.inr (.inr (some 71))), some (.inl 0), some (.inl p2)] [] (SH, dt) (fun r w2 => ∃ dt2 : Nat → Nat → Int, w2 = (SH, dt2) ∧ InvC dt2 ∧ Fr [73] dt dt2 ∧ ((r = none ∧ (∀ j : Nat, ¬ j = 0 → dt2 73 j = dt 73 j) ∧ (dt2 73 0 = p2)))) := by
  have hF : Fr [73] dt dt := Fr_refl
  refine go_toq PM44 (k := 9) (pc' := 16) (L' := [some (.inr (.inr (some 71))), some (.inl 0), some (.inl p2)]) (st' := [.inl p2, .inl 0, .inr (.inr (some 73))]) (w' := (SH, dt)) rfl ?_
  have hI1 : InvC (u2 dt 73 0 p2) := InvC_u2 hI (lo := -2147483648) (hi := 2147483647) rfl rfl rfl (by first | exact bnd1 h_p2 (by decide) | fail) (by first | exact bnd2 h_p2 (by decide) | fail)
  have hF2 : Fr [73] dt (u2 dt 73 0 p2) := Fr_u2 hF (by decide)
  refine go_smpq PM44 (L' := [some (.inr (.inr (some 71))), some (.inl 0), some (.inl p2)]) (st' := []) (w' := (SH, (u2 dt 73 0 p2))) rfl rfl (s_iast (n := 6) rfl ⟨by decide, by decide⟩ (by first | exact bnd h_p2 (by decide) (by decide) | exact ⟨by fail, by fail⟩)) ?_
  refine go_retq PM44 (k := 0) (r := none) (w1 := (SH, (u2 dt 73 0 p2))) rfl ?_
  exact ⟨(u2 dt 73 0 p2), rfl, hI1, hF2, ⟨rfl, ⟨by first | (exfalso; fail) | (intro j hj; exact u2_ne (by omega)), by first | (exfalso; fail) | exact u2_eq⟩⟩⟩
theorem sp_X3_give_g1 (L : Nat) (xs : Nat → Int32) (sio : Option Nat) (d : Nat) (dt : Nat → Nat → Int) (hI : InvC dt)  (p2 : Int) (h_p2 : (-2147483648) ≤ p2 ∧ p2 ≤ 2147483647)  : GO (am_XX L xs sio) (d) 44 0 [some (.inr (.inr (some 71))), some (.inl 1), some (.inl p2)] [] (SH, dt) (fun r w2 => ∃ dt2 : Nat → Nat → Int, w2 = (SH, dt2) ∧ InvC dt2 ∧ Fr [73] dt dt2 ∧ ((r = none ∧ (∀ j : Nat, ¬ j = 1 → dt2 73 j = dt 73 j) ∧ (dt2 73 1 = p2)))) := by
  have hF : Fr [73] dt dt := Fr_refl
  refine go_toq PM44 (k := 9) (pc' := 16) (L' := [some (.inr (.inr (some 71))), some (.inl 1), some (.inl p2)]) (st' := [.inl p2, .inl 1, .inr (.inr (some 73))]) (w' := (SH, dt)) rfl ?_
  have hI1 : InvC (u2 dt 73 1 p2) := InvC_u2 hI (lo := -2147483648) (hi := 2147483647) rfl rfl rfl (by first | exact bnd1 h_p2 (by decide) | fail) (by first | exact bnd2 h_p2 (by decide) | fail)
  have hF2 : Fr [73] dt (u2 dt 73 1 p2) := Fr_u2 hF (by decide)
  refine go_smpq PM44 (L' := [some (.inr (.inr (some 71))), some (.inl 1), some (.inl p2)]) (st' := []) (w' := (SH, (u2 dt 73 1 p2))) rfl rfl (s_iast (n := 6) rfl ⟨by decide, by decide⟩ (by first | exact bnd h_p2 (by decide) (by decide) | exact ⟨by fail, by fail⟩)) ?_
  refine go_retq PM44 (k := 0) (r := none) (w1 := (SH, (u2 dt 73 1 p2))) rfl ?_
  exact ⟨(u2 dt 73 1 p2), rfl, hI1, hF2, ⟨rfl, ⟨by first | (exfalso; fail) | (intro j hj; exact u2_ne (by omega)), by first | (exfalso; fail) | exact u2_eq⟩⟩⟩
theorem sp_X3_give_g2 (L : Nat) (xs : Nat → Int32) (sio : Option Nat) (d : Nat) (dt : Nat → Nat → Int) (hI : InvC dt)  (p2 : Int) (h_p2 : (-2147483648) ≤ p2 ∧ p2 ≤ 2147483647)  : GO (am_XX L xs sio) (d) 44 0 [some (.inr (.inr (some 71))), some (.inl 2), some (.inl p2)] [] (SH, dt) (fun r w2 => ∃ dt2 : Nat → Nat → Int, w2 = (SH, dt2) ∧ InvC dt2 ∧ Fr [73] dt dt2 ∧ ((r = none ∧ (∀ j : Nat, ¬ j = 2 → dt2 73 j = dt 73 j) ∧ (dt2 73 2 = p2)))) := by
  have hF : Fr [73] dt dt := Fr_refl
  refine go_toq PM44 (k := 9) (pc' := 16) (L' := [some (.inr (.inr (some 71))), some (.inl 2), some (.inl p2)]) (st' := [.inl p2, .inl 2, .inr (.inr (some 73))]) (w' := (SH, dt)) rfl ?_
  have hI1 : InvC (u2 dt 73 2 p2) := InvC_u2 hI (lo := -2147483648) (hi := 2147483647) rfl rfl rfl (by first | exact bnd1 h_p2 (by decide) | fail) (by first | exact bnd2 h_p2 (by decide) | fail)
  have hF2 : Fr [73] dt (u2 dt 73 2 p2) := Fr_u2 hF (by decide)
  refine go_smpq PM44 (L' := [some (.inr (.inr (some 71))), some (.inl 2), some (.inl p2)]) (st' := []) (w' := (SH, (u2 dt 73 2 p2))) rfl rfl (s_iast (n := 6) rfl ⟨by decide, by decide⟩ (by first | exact bnd h_p2 (by decide) (by decide) | exact ⟨by fail, by fail⟩)) ?_
  refine go_retq PM44 (k := 0) (r := none) (w1 := (SH, (u2 dt 73 2 p2))) rfl ?_
  exact ⟨(u2 dt 73 2 p2), rfl, hI1, hF2, ⟨rfl, ⟨by first | (exfalso; fail) | (intro j hj; exact u2_ne (by omega)), by first | (exfalso; fail) | exact u2_eq⟩⟩⟩
theorem sp_X3_give_g3 (L : Nat) (xs : Nat → Int32) (sio : Option Nat) (d : Nat) (dt : Nat → Nat → Int) (hI : InvC dt)  (p2 : Int) (h_p2 : (-2147483648) ≤ p2 ∧ p2 ≤ 2147483647)  : GO (am_XX L xs sio) (d) 44 0 [some (.inr (.inr (some 71))), some (.inl 3), some (.inl p2)] [] (SH, dt) (fun r w2 => ∃ dt2 : Nat → Nat → Int, w2 = (SH, dt2) ∧ InvC dt2 ∧ Fr [73] dt dt2 ∧ ((r = none ∧ (∀ j : Nat, ¬ j = 3 → dt2 73 j = dt 73 j) ∧ (dt2 73 3 = p2)))) := by
  have hF : Fr [73] dt dt := Fr_refl
  refine go_toq PM44 (k := 9) (pc' := 16) (L' := [some (.inr (.inr (some 71))), some (.inl 3), some (.inl p2)]) (st' := [.inl p2, .inl 3, .inr (.inr (some 73))]) (w' := (SH, dt)) rfl ?_
  have hI1 : InvC (u2 dt 73 3 p2) := InvC_u2 hI (lo := -2147483648) (hi := 2147483647) rfl rfl rfl (by first | exact bnd1 h_p2 (by decide) | fail) (by first | exact bnd2 h_p2 (by decide) | fail)
  have hF2 : Fr [73] dt (u2 dt 73 3 p2) := Fr_u2 hF (by decide)
  refine go_smpq PM44 (L' := [some (.inr (.inr (some 71))), some (.inl 3), some (.inl p2)]) (st' := []) (w' := (SH, (u2 dt 73 3 p2))) rfl rfl (s_iast (n := 6) rfl ⟨by decide, by decide⟩ (by first | exact bnd h_p2 (by decide) (by decide) | exact ⟨by fail, by fail⟩)) ?_
  refine go_retq PM44 (k := 0) (r := none) (w1 := (SH, (u2 dt 73 3 p2))) rfl ?_
  exact ⟨(u2 dt 73 3 p2), rfl, hI1, hF2, ⟨rfl, ⟨by first | (exfalso; fail) | (intro j hj; exact u2_ne (by omega)), by first | (exfalso; fail) | exact u2_eq⟩⟩⟩
theorem sp_X3_give_g4 (L : Nat) (xs : Nat → Int32) (sio : Option Nat) (d : Nat) (dt : Nat → Nat → Int) (hI : InvC dt)  (p2 : Int) (h_p2 : (-2147483648) ≤ p2 ∧ p2 ≤ 2147483647)  : GO (am_XX L xs sio) (d) 44 0 [some (.inr (.inr (some 71))), some (.inl 4), some (.inl p2)] [] (SH, dt) (fun r w2 => ∃ dt2 : Nat → Nat → Int, w2 = (SH, dt2) ∧ InvC dt2 ∧ Fr [73] dt dt2 ∧ ((r = none ∧ (∀ j : Nat, ¬ j = 4 → dt2 73 j = dt 73 j) ∧ (dt2 73 4 = p2)))) := by
  have hF : Fr [73] dt dt := Fr_refl
  refine go_toq PM44 (k := 9) (pc' := 16) (L' := [some (.inr (.inr (some 71))), some (.inl 4), some (.inl p2)]) (st' := [.inl p2, .inl 4, .inr (.inr (some 73))]) (w' := (SH, dt)) rfl ?_
  have hI1 : InvC (u2 dt 73 4 p2) := InvC_u2 hI (lo := -2147483648) (hi := 2147483647) rfl rfl rfl (by first | exact bnd1 h_p2 (by decide) | fail) (by first | exact bnd2 h_p2 (by decide) | fail)
  have hF2 : Fr [73] dt (u2 dt 73 4 p2) := Fr_u2 hF (by decide)
  refine go_smpq PM44 (L' := [some (.inr (.inr (some 71))), some (.inl 4), some (.inl p2)]) (st' := []) (w' := (SH, (u2 dt 73 4 p2))) rfl rfl (s_iast (n := 6) rfl ⟨by decide, by decide⟩ (by first | exact bnd h_p2 (by decide) (by decide) | exact ⟨by fail, by fail⟩)) ?_
  refine go_retq PM44 (k := 0) (r := none) (w1 := (SH, (u2 dt 73 4 p2))) rfl ?_
  exact ⟨(u2 dt 73 4 p2), rfl, hI1, hF2, ⟨rfl, ⟨by first | (exfalso; fail) | (intro j hj; exact u2_ne (by omega)), by first | (exfalso; fail) | exact u2_eq⟩⟩⟩
theorem sp_X3_give_g5 (L : Nat) (xs : Nat → Int32) (sio : Option Nat) (d : Nat) (dt : Nat → Nat → Int) (hI : InvC dt)  (p2 : Int) (h_p2 : (-2147483648) ≤ p2 ∧ p2 ≤ 2147483647)  : GO (am_XX L xs sio) (d) 44 0 [some (.inr (.inr (some 71))), some (.inl 5), some (.inl p2)] [] (SH, dt) (fun r w2 => ∃ dt2 : Nat → Nat → Int, w2 = (SH, dt2) ∧ InvC dt2 ∧ Fr [73] dt dt2 ∧ ((r = none ∧ (∀ j : Nat, ¬ j = 5 → dt2 73 j = dt 73 j) ∧ (dt2 73 5 = p2)))) := by
  have hF : Fr [73] dt dt := Fr_refl
  refine go_toq PM44 (k := 9) (pc' := 16) (L' := [some (.inr (.inr (some 71))), some (.inl 5), some (.inl p2)]) (st' := [.inl p2, .inl 5, .inr (.inr (some 73))]) (w' := (SH, dt)) rfl ?_
  have hI1 : InvC (u2 dt 73 5 p2) := InvC_u2 hI (lo := -2147483648) (hi := 2147483647) rfl rfl rfl (by first | exact bnd1 h_p2 (by decide) | fail) (by first | exact bnd2 h_p2 (by decide) | fail)
  have hF2 : Fr [73] dt (u2 dt 73 5 p2) := Fr_u2 hF (by decide)
  refine go_smpq PM44 (L' := [some (.inr (.inr (some 71))), some (.inl 5), some (.inl p2)]) (st' := []) (w' := (SH, (u2 dt 73 5 p2))) rfl rfl (s_iast (n := 6) rfl ⟨by decide, by decide⟩ (by first | exact bnd h_p2 (by decide) (by decide) | exact ⟨by fail, by fail⟩)) ?_
  refine go_retq PM44 (k := 0) (r := none) (w1 := (SH, (u2 dt 73 5 p2))) rfl ?_
  exact ⟨(u2 dt 73 5 p2), rfl, hI1, hF2, ⟨rfl, ⟨by first | (exfalso; fail) | (intro j hj; exact u2_ne (by omega)), by first | (exfalso; fail) | exact u2_eq⟩⟩⟩
theorem sp_X3_weigh_f (L : Nat) (xs : Nat → Int32) (sio : Option Nat) (d : Nat) (dt : Nat → Nat → Int) (hI : InvC dt) (F : Nat → Int) (hMF : MW F) (p2 : Int) (h_p2 : 0 ≤ p2 ∧ p2 ≤ 3) (h_p0 : LWL (dt 4) (dt 5) (dt 6) F) : GO (am_XX L xs sio) (d + 3) 45 0 [some (.inr (.inr (some 71))), some (.inr (.inr (some 1))), some (.inl p2), none] [] (SH, dt) (fun r w2 => ∃ dt2 : Nat → Nat → Int, w2 = (SH, dt2) ∧ InvC dt2 ∧ Fr [71, 72, 74] dt dt2 ∧ ((r = none ∧ (WGT (dt2 72) (dt2 71 1) F (FAC (dt 73)) p2)))) := by
  have hF : Fr [71, 72, 74] dt dt := Fr_refl
  refine go_toq PM45 (k := 2) (pc' := 2) (L' := [some (.inr (.inr (some 71))), some (.inr (.inr (some 1))), some (.inl p2), none]) (st' := [.inl 0, .inr (.inr (some 71))]) (w' := (SH, dt)) rfl ?_
  have hI1 : InvC (u2 dt 71 1 0) := InvC_u2 hI (lo := 0) (hi := 792) rfl rfl rfl (by decide) (by decide)
  have hF2 : Fr [71, 72, 74] dt (u2 dt 71 1 0) := Fr_u2 hF (by decide)
  have w3 : (u2 dt 71 1 0) 71 1 = 0 := rfl
  refine go_smpq PM45 (L' := [some (.inr (.inr (some 71))), some (.inr (.inr (some 1))), some (.inl p2), none]) (st' := []) (w' := (SH, (u2 dt 71 1 0))) rfl rfl (s_pf rfl rfl rfl rfl ⟨by decide, by decide⟩) ?_
  refine go_toq PM45 (k := 2) (pc' := 7) (L' := [some (.inr (.inr (some 71))), some (.inr (.inr (some 1))), some (.inl p2), some (.inl 0)]) (st' := []) (w' := (SH, (u2 dt 71 1 0))) rfl ?_
  have loop28 : ∀ (k_ : Nat) (l7_3 : Int) (dt21 : Nat → Nat → Int) (hI22 : InvC dt21) (hF23 : Fr [71, 72, 74] dt dt21) (i24 : 0 ≤ l7_3 ∧ l7_3 ≤ 8) (i25 : ∀ r : Nat, (r : Int) < l7_3 → dt21 72 r = WH F (FAC (dt 73)) p2 (r : Int)) (i26 : dt21 71 1 = WS F (FAC (dt 73)) p2 (l7_3).toNat) (i27 : 0 ≤ dt21 71 1 ∧ dt21 71 1 ≤ 99 * l7_3), (9 - l7_3).toNat < k_ → GO (am_XX L xs sio) (d + 3) 45 7 [some (.inr (.inr (some 71))), some (.inr (.inr (some 1))), some (.inl p2), some (.inl l7_3)] [] (SH, dt21) (fun r w2 => ∃ dt2 : Nat → Nat → Int, w2 = (SH, dt2) ∧ InvC dt2 ∧ Fr [71, 72, 74] dt dt2 ∧ ((r = none ∧ (WGT (dt2 72) (dt2 71 1) F (FAC (dt 73)) p2)))) := by
    intro k_
    induction k_ with
    | zero => intro l7_3 dt21 hI22 hF23 i24 i25 i26 i27 hm; exact absurd hm (Nat.not_lt_zero _)
    | succ k_ ih_loop28 =>
      intro l7_3 dt21 hI22 hF23 i24 i25 i26 i27 hm
      have q0 := i25
      have q1 := i26
      have hs := WS_s (f := F) (fa := (FAC (dt 73))) (l := p2) (r := l7_3) (by omega)
      have hw : l7_3 < 8 → _ := fun (z_ : l7_3 < 8) => WH_R7 (f := F) (fa := (FAC (dt 73))) (l := p2) (r := l7_3) (by omega)
      refine go_ifq PM45 (k := 2) (p1 := 49) (p2 := 13) (L' := [some (.inr (.inr (some 71))), some (.inr (.inr (some 1))), some (.inl p2), some (.inl l7_3)]) (st' := []) (w' := (SH, dt21)) rfl (c_ge (a := l7_3) (b := 8) (by first | exact bnd i24 (by decide) (by decide) | exact ⟨by fail, by fail⟩) ⟨by decide, by decide⟩) (fun c29 => ?_) (fun c29 => ?_)
      · skip
        refine go_toq PM45 (k := 8) (pc' := 62) (L' := [some (.inr (.inr (some 71))), some (.inr (.inr (some 1))), some (.inl p2), some (.inl l7_3)]) (st' := [.inl 100, .inl 8, .inl p2, .inr (.inr (some 1)), .inr (.inr (some 71)), .inl 8, .inr (.inr (some 72))]) (w' := (SH, dt21)) rfl ?_
        refine go_callq PM45 PM47 (Q' := _) rfl rfl rfl rfl (sp_X3_amountOf_f L xs sio (d + 0) dt21 hI22 F hMF p2 (by first | exact h_p2 | exact bnd h_p2 (by decide) (by decide) | exact ⟨by fail, by fail⟩) 8 ⟨by decide, by decide⟩ 100 ⟨by decide, by decide⟩ (by first | exact True.intro | with_reducible assumption | rfl | fail | trivial | exact h_p0 | (rw [show dt21 4 = dt 4 from funext (hF23 4 (by decide)), show dt21 5 = dt 5 from funext (hF23 5 (by decide)), show dt21 6 = dt 6 from funext (hF23 6 (by decide))]; exact h_p0)) (by first | exact True.intro | with_reducible assumption | rfl | omega | trivial | exact h_p0 | (rw [show dt21 4 = dt 4 from funext (hF23 4 (by decide)), show dt21 5 = dt 5 from funext (hF23 5 (by decide)), show dt21 6 = dt 6 from funext (hF23 6 (by decide))]; exact h_p0))) ?_
        rintro _ _ ⟨dt31, rfl, hI32, hF33, h30⟩
        refine ⟨rfl, ?_⟩
        have hF34 : Fr [71, 72, 74] dt dt31 := Fr_tr hF23 hF33 (by decide)
        have w35 : dt31 71 1 = dt21 71 1 := hF33 71 (by decide) 1
        rcases h30 with ⟨v_h30, rfl, h30r, h30⟩
        have wv36 := h30
        rw [show dt21 73 = dt 73 from funext (hF23 73 (by decide))] at wv36
        have wb_ := WH_R (f := F) (fa := FAC (dt 73)) (l := p2) (rule := 8)
        rw [if_pos rfl] at wb_
        have hI37 : InvC (u2 dt31 72 8 v_h30) := InvC_u2 hI32 (lo := 0) (hi := 100) rfl rfl rfl (by first | exact bnd1 h30r (by decide) | fail) (by first | exact bnd2 h30r (by decide) | omega)
        have hF38 : Fr [71, 72, 74] dt (u2 dt31 72 8 v_h30) := Fr_u2 hF34 (by decide)
        have w39 : (u2 dt31 72 8 v_h30) 71 1 = dt31 71 1 := rfl
        refine go_smpq PM45 (L' := [some (.inr (.inr (some 71))), some (.inr (.inr (some 1))), some (.inl p2), some (.inl l7_3)]) (st' := []) (w' := (SH, (u2 dt31 72 8 v_h30))) rfl rfl (s_iast (n := 9) rfl ⟨by omega, by omega⟩ ⟨by omega, by omega⟩) ?_
        refine go_retq PM45 (k := 0) (r := none) (w1 := (SH, (u2 dt31 72 8 v_h30))) rfl ?_
        exact ⟨(u2 dt31 72 8 v_h30), rfl, hI37, hF38, ⟨rfl, by exact ⟨fun r hr => by (repeat rw [u2_ne (by omega)]); exact (hF33 72 (by decide) r).trans (q0 r (by omega)), by (rw [u2_eq]; exact wv36), by have z_ := q1; rw [show l7_3.toNat = 8 by first | with_reducible assumption | omega] at z_; omega⟩⟩⟩
      · skip
        refine go_toq PM45 (k := 8) (pc' := 24) (L' := [some (.inr (.inr (some 71))), some (.inr (.inr (some 1))), some (.inl p2), some (.inl l7_3)]) (st' := [.inl 99, .inl l7_3, .inl p2, .inr (.inr (some 1)), .inr (.inr (some 71)), .inl l7_3, .inr (.inr (some 72))]) (w' := (SH, dt21)) rfl ?_
        refine go_callq PM45 PM47 (Q' := _) rfl rfl rfl rfl (sp_X3_amountOf_f L xs sio (d + 0) dt21 hI22 F hMF p2 (by first | exact h_p2 | exact bnd h_p2 (by decide) (by decide) | exact ⟨by fail, by fail⟩) l7_3 (by first | exact bnd i24 (by decide) (by decide) | exact bndd i24 c29 (by decide) (by decide) | exact ⟨by fail, by fail⟩) 99 ⟨by decide, by decide⟩ (by first | exact True.intro | with_reducible assumption | rfl | fail | trivial | exact h_p0 | (rw [show dt21 4 = dt 4 from funext (hF23 4 (by decide)), show dt21 5 = dt 5 from funext (hF23 5 (by decide)), show dt21 6 = dt 6 from funext (hF23 6 (by decide))]; exact h_p0)) (by first | exact True.intro | with_reducible assumption | rfl | omega | trivial | exact h_p0 | (rw [show dt21 4 = dt 4 from funext (hF23 4 (by decide)), show dt21 5 = dt 5 from funext (hF23 5 (by decide)), show dt21 6 = dt 6 from funext (hF23 6 (by decide))]; exact h_p0))) ?_
        rintro _ _ ⟨dt41, rfl, hI42, hF43, h40⟩
        refine ⟨rfl, ?_⟩
        have hF44 : Fr [71, 72, 74] dt dt41 := Fr_tr hF23 hF43 (by decide)
        have w45 : dt41 71 1 = dt21 71 1 := hF43 71 (by decide) 1
        rcases h40 with ⟨v_h40, rfl, h40r, h40⟩
        have wv46 := h40
        rw [show dt21 73 = dt 73 from funext (hF23 73 (by decide))] at wv46
        have hI47 : InvC (u2 dt41 72 (l7_3).toNat v_h40) := InvC_u2 hI42 (lo := 0) (hi := 100) rfl rfl rfl (by first | exact bnd1 h40r (by decide) | fail) (by first | exact bnd2 h40r (by decide) | omega)
        have hF48 : Fr [71, 72, 74] dt (u2 dt41 72 (l7_3).toNat v_h40) := Fr_u2 hF44 (by decide)
        have w49 : (u2 dt41 72 (l7_3).toNat v_h40) 71 1 = dt41 71 1 := rfl
        refine go_smpq PM45 (L' := [some (.inr (.inr (some 71))), some (.inr (.inr (some 1))), some (.inl p2), some (.inl l7_3)]) (st' := []) (w' := (SH, (u2 dt41 72 (l7_3).toNat v_h40))) rfl rfl (s_iast (n := 9) rfl ⟨by omega, by omega⟩ ⟨by omega, by omega⟩) ?_
        have r50 : 0 ≤ dt41 71 1 ∧ dt41 71 1 ≤ 792 := InvC_get hI42 71 1 rfl rfl
        refine go_toq PM45 (k := 6) (pc' := 38) (L' := [some (.inr (.inr (some 71))), some (.inr (.inr (some 1))), some (.inl p2), some (.inl l7_3)]) (st' := [.inl l7_3, .inr (.inr (some 72)), .inl (dt41 71 1), .inr (.inr (some 71))]) (w' := (SH, (u2 dt41 72 (l7_3).toNat v_h40))) rfl ?_
        have e51 : (u2 dt41 72 (l7_3).toNat v_h40) 72 (l7_3).toNat = v_h40 := u2_eq
        refine go_smpq PM45 (L' := [some (.inr (.inr (some 71))), some (.inr (.inr (some 1))), some (.inl p2), some (.inl l7_3)]) (st' := [.inl ((u2 dt41 72 (l7_3).toNat v_h40) 72 (l7_3).toNat), .inl (dt41 71 1), .inr (.inr (some 71))]) (w' := (SH, (u2 dt41 72 (l7_3).toNat v_h40))) rfl rfl (s_iald (n := 9) (f := (u2 dt41 72 (l7_3).toNat v_h40) 72) rfl (by first | exact bndc i24 c29 (by decide) (by decide) | exact bndx i24 (by decide) (by decide) | exact ⟨by fail, by fail⟩)) ?_
        refine go_toq PM45 (k := 1) (pc' := 40) (L' := [some (.inr (.inr (some 71))), some (.inr (.inr (some 1))), some (.inl p2), some (.inl l7_3)]) (st' := [.inl ((dt41 71 1) + ((u2 dt41 72 (l7_3).toNat v_h40) 72 (l7_3).toNat)), .inr (.inr (some 71))]) (w' := (SH, (u2 dt41 72 (l7_3).toNat v_h40))) rfl ?_
        have hI52 : InvC (u2 (u2 dt41 72 (l7_3).toNat v_h40) 71 1 ((dt41 71 1) + ((u2 dt41 72 (l7_3).toNat v_h40) 72 (l7_3).toNat))) := InvC_u2 hI47 (lo := 0) (hi := 792) rfl rfl rfl (by omega) (by omega)
        have hF53 : Fr [71, 72, 74] dt (u2 (u2 dt41 72 (l7_3).toNat v_h40) 71 1 ((dt41 71 1) + ((u2 dt41 72 (l7_3).toNat v_h40) 72 (l7_3).toNat))) := Fr_u2 hF48 (by decide)
        have w54 : (u2 (u2 dt41 72 (l7_3).toNat v_h40) 71 1 ((dt41 71 1) + ((u2 dt41 72 (l7_3).toNat v_h40) 72 (l7_3).toNat))) 71 1 = (dt41 71 1) + ((u2 dt41 72 (l7_3).toNat v_h40) 72 (l7_3).toNat) := rfl
        refine go_smpq PM45 (L' := [some (.inr (.inr (some 71))), some (.inr (.inr (some 1))), some (.inl p2), some (.inl l7_3)]) (st' := []) (w' := (SH, (u2 (u2 dt41 72 (l7_3).toNat v_h40) 71 1 ((dt41 71 1) + ((u2 dt41 72 (l7_3).toNat v_h40) 72 (l7_3).toNat))))) rfl rfl (s_pf rfl rfl rfl rfl ⟨by omega, by omega⟩) ?_
        refine go_toq PM45 (k := 2) (pc' := 7) (L' := [some (.inr (.inr (some 71))), some (.inr (.inr (some 1))), some (.inl p2), some (.inl (l7_3 + 1))]) (st' := []) (w' := (SH, (u2 (u2 dt41 72 (l7_3).toNat v_h40) 71 1 ((dt41 71 1) + ((u2 dt41 72 (l7_3).toNat v_h40) 72 (l7_3).toNat))))) rfl ?_
        exact GO.le (ih_loop28 (l7_3 + 1) (u2 (u2 dt41 72 (l7_3).toNat v_h40) 71 1 ((dt41 71 1) + ((u2 dt41 72 (l7_3).toNat v_h40) 72 (l7_3).toNat))) hI52 hF53 (by first | omega | (intro r hr; fail) | exact wgt_s q0 (by fail) (fun j hj => by (repeat rw [u2_ne (by fail)]); exact hF43 72 (by decide) j) (by (repeat (first | rw [u2_eq] | rw [u2_ne (by fail)]))) wv46 | rfl) (by first | fail | (intro r hr; fail) | exact wgt_s q0 (by omega) (fun j hj => by (repeat rw [u2_ne (by omega)]); exact hF43 72 (by decide) j) (by (repeat (first | rw [u2_eq] | rw [u2_ne (by omega)]))) wv46 | rfl) (by first | omega | (intro r hr; fail) | exact wgt_s q0 (by fail) (fun j hj => by (repeat rw [u2_ne (by fail)]); exact hF43 72 (by decide) j) (by (repeat (first | rw [u2_eq] | rw [u2_ne (by fail)]))) wv46 | rfl) (by first | omega | (intro r hr; fail) | exact wgt_s q0 (by fail) (fun j hj => by (repeat rw [u2_ne (by fail)]); exact hF43 72 (by decide) j) (by (repeat (first | rw [u2_eq] | rw [u2_ne (by fail)]))) wv46 | rfl) (by omega)) ⟨.inl rfl, .inl rfl, .inl rfl, .inl rfl, trivial⟩
  exact GO.le (loop28 _ 0 (u2 dt 71 1 0) hI1 hF2 (by first | omega | (intro r hr; fail) | exact wgt_s q0 (by fail) (fun j hj => by (repeat rw [u2_ne (by fail)]); exact hF 72 (by decide) j) (by (repeat (first | rw [u2_eq] | rw [u2_ne (by fail)]))) hI | rfl) (by first | omega | (intro r hr; fail) | exact wgt_s q0 (by fail) (fun j hj => by (repeat rw [u2_ne (by fail)]); exact hF 72 (by decide) j) (by (repeat (first | rw [u2_eq] | rw [u2_ne (by fail)]))) hI | rfl) (by first | fail | (intro r hr; fail) | exact wgt_s q0 (by fail) (fun j hj => by (repeat rw [u2_ne (by fail)]); exact hF 72 (by decide) j) (by (repeat (first | rw [u2_eq] | rw [u2_ne (by fail)]))) hI | rfl) (by first | omega | (intro r hr; fail) | exact wgt_s q0 (by fail) (fun j hj => by (repeat rw [u2_ne (by fail)]); exact hF 72 (by decide) j) (by (repeat (first | rw [u2_eq] | rw [u2_ne (by fail)]))) hI | rfl) (Nat.lt_succ_self _)) ⟨.inl rfl, .inl rfl, .inl rfl, .inl rfl, trivial⟩
theorem sp_X2_at_10_0 (L : Nat) (xs : Nat → Int32) (sio : Option Nat) (d : Nat) (dt : Nat → Nat → Int) (hI : InvC dt)  (p1 : Int) (h_p1 : 0 ≤ p1 ∧ p1 ≤ 39) (h_p0 : p1 < dt 10 3) (h_p1 : 0 ≤ dt 11 (((p1 * 4) + 0)).toNat ∧ dt 11 (((p1 * 4) + 0)).toNat ≤ 3) : GO (am_XX L xs sio) (d + 1) 39 0 [some (.inr (.inr (some 10))), some (.inl p1), some (.inl 0)] [] (SH, dt) (fun r w2 => w2 = (SH, dt) ∧ ((r = some (.inl (dt 11 (((p1 * 4) + 0)).toNat)) ∧ (0 ≤ dt 11 (((p1 * 4) + 0)).toNat ∧ dt 11 (((p1 * 4) + 0)).toNat ≤ 3)))) := by
  have r1 : 0 ≤ dt 10 3 ∧ dt 10 3 ≤ 40 := InvC_get hI 10 3 rfl rfl
  refine go_toq PM39 (k := 2) (pc' := 2) (L' := [some (.inr (.inr (some 10))), some (.inl p1), some (.inl 0)]) (st' := [.inl p1, .inr (.inr (some 10))]) (w' := (SH, dt)) rfl ?_
  refine go_callq PM39 PM37 (Q' := _) rfl rfl rfl rfl (sp_X2_has_10 L xs sio (d + 0) dt hI  p1 (by first | exact h_p1 | exact bnd h_p1 (by decide) (by decide) | exact ⟨by omega, by omega⟩) ) ?_
  rintro _ _ ⟨rfl, h2⟩
  refine ⟨rfl, ?_⟩
  rcases h2 with ⟨rfl, h2⟩ | ⟨rfl, h2⟩
  · skip
    refine go_toq PM39 (k := 5) (pc' := 14) (L' := [some (.inr (.inr (some 10))), some (.inl p1), some (.inl 0)]) (st' := [.inr (.inr (some 10)), .inl 0]) (w' := (SH, dt)) rfl ?_
    refine go_smpq PM39 (L' := [some (.inr (.inr (some 10))), some (.inl p1), some (.inl 0)]) (st' := [.inl 4, .inl 0]) (w' := (SH, dt)) rfl rfl (s_gfc rfl rfl rfl (hI.2 10 1 rfl)) ?_
    refine go_toq PM39 (k := 5) (pc' := 26) (L' := [some (.inr (.inr (some 10))), some (.inl p1), some (.inl 0)]) (st' := [.inr (.inr (some 10)), .inl p1, .inr (.inr (some 11))]) (w' := (SH, dt)) rfl ?_
    refine go_smpq PM39 (L' := [some (.inr (.inr (some 10))), some (.inl p1), some (.inl 0)]) (st' := [.inl 4, .inl p1, .inr (.inr (some 11))]) (w' := (SH, dt)) rfl rfl (s_gfc rfl rfl rfl (hI.2 10 1 rfl)) ?_
    refine go_toq PM39 (k := 3) (pc' := 32) (L' := [some (.inr (.inr (some 10))), some (.inl p1), some (.inl 0)]) (st' := [.inl ((p1 * 4) + 0), .inr (.inr (some 11))]) (w' := (SH, dt)) rfl ?_
    have r3 : (-2147483648) ≤ dt 11 (((p1 * 4) + 0).toNat) ∧ dt 11 (((p1 * 4) + 0).toNat) ≤ 2147483647 := InvC_get hI 11 (((p1 * 4) + 0).toNat) rfl rfl
    refine go_smpq PM39 (L' := [some (.inr (.inr (some 10))), some (.inl p1), some (.inl 0)]) (st' := [.inl (dt 11 (((p1 * 4) + 0).toNat))]) (w' := (SH, dt)) rfl rfl (s_iald (n := 160) (f := dt 11) rfl ⟨by omega, by omega⟩) ?_
    refine go_retq PM39 (k := 1) (r := some (.inl (dt 11 (((p1 * 4) + 0).toNat)))) (w1 := (SH, dt)) rfl ?_
    exact ⟨rfl, ⟨rfl, by first | exact True.intro | with_reducible assumption | rfl | fail | trivial⟩⟩
  · skip
    exfalso; omega
theorem sp_X2_at_10_1 (L : Nat) (xs : Nat → Int32) (sio : Option Nat) (d : Nat) (dt : Nat → Nat → Int) (hI : InvC dt)  (p1 : Int) (h_p1 : 0 ≤ p1 ∧ p1 ≤ 39) (h_p0 : p1 < dt 10 3) : GO (am_XX L xs sio) (d + 1) 39 0 [some (.inr (.inr (some 10))), some (.inl p1), some (.inl 1)] [] (SH, dt) (fun r w2 => w2 = (SH, dt) ∧ ((r = some (.inl (dt 11 (((p1 * 4) + 1)).toNat)) ∧ ((-2147483648) ≤ dt 11 (((p1 * 4) + 1)).toNat ∧ dt 11 (((p1 * 4) + 1)).toNat ≤ 2147483647)))) := by
  have r1 : 0 ≤ dt 10 3 ∧ dt 10 3 ≤ 40 := InvC_get hI 10 3 rfl rfl
  refine go_toq PM39 (k := 2) (pc' := 2) (L' := [some (.inr (.inr (some 10))), some (.inl p1), some (.inl 1)]) (st' := [.inl p1, .inr (.inr (some 10))]) (w' := (SH, dt)) rfl ?_
  refine go_callq PM39 PM37 (Q' := _) rfl rfl rfl rfl (sp_X2_has_10 L xs sio (d + 0) dt hI  p1 (by first | exact h_p1 | exact bnd h_p1 (by decide) (by decide) | exact ⟨by fail, by fail⟩) ) ?_
  rintro _ _ ⟨rfl, h2⟩
  refine ⟨rfl, ?_⟩
  rcases h2 with ⟨rfl, h2⟩ | ⟨rfl, h2⟩
  · skip
    refine go_toq PM39 (k := 5) (pc' := 14) (L' := [some (.inr (.inr (some 10))), some (.inl p1), some (.inl 1)]) (st' := [.inr (.inr (some 10)), .inl 1]) (w' := (SH, dt)) rfl ?_
    refine go_smpq PM39 (L' := [some (.inr (.inr (some 10))), some (.inl p1), some (.inl 1)]) (st' := [.inl 4, .inl 1]) (w' := (SH, dt)) rfl rfl (s_gfc rfl rfl rfl (hI.2 10 1 rfl)) ?_
    refine go_toq PM39 (k := 5) (pc' := 26) (L' := [some (.inr (.inr (some 10))), some (.inl p1), some (.inl 1)]) (st' := [.inr (.inr (some 10)), .inl p1, .inr (.inr (some 11))]) (w' := (SH, dt)) rfl ?_
    refine go_smpq PM39 (L' := [some (.inr (.inr (some 10))), some (.inl p1), some (.inl 1)]) (st' := [.inl 4, .inl p1, .inr (.inr (some 11))]) (w' := (SH, dt)) rfl rfl (s_gfc rfl rfl rfl (hI.2 10 1 rfl)) ?_
    refine go_toq PM39 (k := 3) (pc' := 32) (L' := [some (.inr (.inr (some 10))), some (.inl p1), some (.inl 1)]) (st' := [.inl ((p1 * 4) + 1), .inr (.inr (some 11))]) (w' := (SH, dt)) rfl ?_
    have r3 : (-2147483648) ≤ dt 11 (((p1 * 4) + 1).toNat) ∧ dt 11 (((p1 * 4) + 1).toNat) ≤ 2147483647 := InvC_get hI 11 (((p1 * 4) + 1).toNat) rfl rfl
    refine go_smpq PM39 (L' := [some (.inr (.inr (some 10))), some (.inl p1), some (.inl 1)]) (st' := [.inl (dt 11 (((p1 * 4) + 1).toNat))]) (w' := (SH, dt)) rfl rfl (s_iald (n := 160) (f := dt 11) rfl ⟨by omega, by omega⟩) ?_
    refine go_retq PM39 (k := 1) (r := some (.inl (dt 11 (((p1 * 4) + 1).toNat)))) (w1 := (SH, dt)) rfl ?_
    exact ⟨rfl, ⟨rfl, by first | exact True.intro | with_reducible assumption | rfl | fail | trivial⟩⟩
  · skip
    exfalso; omega
theorem sp_X2_at_10_2 (L : Nat) (xs : Nat → Int32) (sio : Option Nat) (d : Nat) (dt : Nat → Nat → Int) (hI : InvC dt)  (p1 : Int) (h_p1 : 0 ≤ p1 ∧ p1 ≤ 39) (h_p0 : p1 < dt 10 3) : GO (am_XX L xs sio) (d + 1) 39 0 [some (.inr (.inr (some 10))), some (.inl p1), some (.inl 2)] [] (SH, dt) (fun r w2 => w2 = (SH, dt) ∧ ((r = some (.inl (dt 11 (((p1 * 4) + 2)).toNat)) ∧ ((-2147483648) ≤ dt 11 (((p1 * 4) + 2)).toNat ∧ dt 11 (((p1 * 4) + 2)).toNat ≤ 2147483647)))) := by
  have r1 : 0 ≤ dt 10 3 ∧ dt 10 3 ≤ 40 := InvC_get hI 10 3 rfl rfl
  refine go_toq PM39 (k := 2) (pc' := 2) (L' := [some (.inr (.inr (some 10))), some (.inl p1), some (.inl 2)]) (st' := [.inl p1, .inr (.inr (some 10))]) (w' := (SH, dt)) rfl ?_
  refine go_callq PM39 PM37 (Q' := _) rfl rfl rfl rfl (sp_X2_has_10 L xs sio (d + 0) dt hI  p1 (by first | exact h_p1 | exact bnd h_p1 (by decide) (by decide) | exact ⟨by fail, by fail⟩) ) ?_
  rintro _ _ ⟨rfl, h2⟩
  refine ⟨rfl, ?_⟩
  rcases h2 with ⟨rfl, h2⟩ | ⟨rfl, h2⟩
  · skip
    refine go_toq PM39 (k := 5) (pc' := 14) (L' := [some (.inr (.inr (some 10))), some (.inl p1), some (.inl 2)]) (st' := [.inr (.inr (some 10)), .inl 2]) (w' := (SH, dt)) rfl ?_
    refine go_smpq PM39 (L' := [some (.inr (.inr (some 10))), some (.inl p1), some (.inl 2)]) (st' := [.inl 4, .inl 2]) (w' := (SH, dt)) rfl rfl (s_gfc rfl rfl rfl (hI.2 10 1 rfl)) ?_
    refine go_toq PM39 (k := 5) (pc' := 26) (L' := [some (.inr (.inr (some 10))), some (.inl p1), some (.inl 2)]) (st' := [.inr (.inr (some 10)), .inl p1, .inr (.inr (some 11))]) (w' := (SH, dt)) rfl ?_
    refine go_smpq PM39 (L' := [some (.inr (.inr (some 10))), some (.inl p1), some (.inl 2)]) (st' := [.inl 4, .inl p1, .inr (.inr (some 11))]) (w' := (SH, dt)) rfl rfl (s_gfc rfl rfl rfl (hI.2 10 1 rfl)) ?_
    refine go_toq PM39 (k := 3) (pc' := 32) (L' := [some (.inr (.inr (some 10))), some (.inl p1), some (.inl 2)]) (st' := [.inl ((p1 * 4) + 2), .inr (.inr (some 11))]) (w' := (SH, dt)) rfl ?_
    have r3 : (-2147483648) ≤ dt 11 (((p1 * 4) + 2).toNat) ∧ dt 11 (((p1 * 4) + 2).toNat) ≤ 2147483647 := InvC_get hI 11 (((p1 * 4) + 2).toNat) rfl rfl
    refine go_smpq PM39 (L' := [some (.inr (.inr (some 10))), some (.inl p1), some (.inl 2)]) (st' := [.inl (dt 11 (((p1 * 4) + 2).toNat))]) (w' := (SH, dt)) rfl rfl (s_iald (n := 160) (f := dt 11) rfl ⟨by omega, by omega⟩) ?_
    refine go_retq PM39 (k := 1) (r := some (.inl (dt 11 (((p1 * 4) + 2).toNat)))) (w1 := (SH, dt)) rfl ?_
    exact ⟨rfl, ⟨rfl, by first | exact True.intro | with_reducible assumption | rfl | fail | trivial⟩⟩
  · skip
    exfalso; omega
theorem sp_X2_at_10_3 (L : Nat) (xs : Nat → Int32) (sio : Option Nat) (d : Nat) (dt : Nat → Nat → Int) (hI : InvC dt)  (p1 : Int) (h_p1 : 0 ≤ p1 ∧ p1 ≤ 39) (h_p0 : p1 < dt 10 3) : GO (am_XX L xs sio) (d + 1) 39 0 [some (.inr (.inr (some 10))), some (.inl p1), some (.inl 3)] [] (SH, dt) (fun r w2 => w2 = (SH, dt) ∧ ((r = some (.inl (dt 11 (((p1 * 4) + 3)).toNat)) ∧ ((-2147483648) ≤ dt 11 (((p1 * 4) + 3)).toNat ∧ dt 11 (((p1 * 4) + 3)).toNat ≤ 2147483647)))) := by
  have r1 : 0 ≤ dt 10 3 ∧ dt 10 3 ≤ 40 := InvC_get hI 10 3 rfl rfl
  refine go_toq PM39 (k := 2) (pc' := 2) (L' := [some (.inr (.inr (some 10))), some (.inl p1), some (.inl 3)]) (st' := [.inl p1, .inr (.inr (some 10))]) (w' := (SH, dt)) rfl ?_
  refine go_callq PM39 PM37 (Q' := _) rfl rfl rfl rfl (sp_X2_has_10 L xs sio (d + 0) dt hI  p1 (by first | exact h_p1 | exact bnd h_p1 (by decide) (by decide) | exact ⟨by fail, by fail⟩) ) ?_
  rintro _ _ ⟨rfl, h2⟩
  refine ⟨rfl, ?_⟩
  rcases h2 with ⟨rfl, h2⟩ | ⟨rfl, h2⟩
  · skip
    refine go_toq PM39 (k := 5) (pc' := 14) (L' := [some (.inr (.inr (some 10))), some (.inl p1), some (.inl 3)]) (st' := [.inr (.inr (some 10)), .inl 3]) (w' := (SH, dt)) rfl ?_
    refine go_smpq PM39 (L' := [some (.inr (.inr (some 10))), some (.inl p1), some (.inl 3)]) (st' := [.inl 4, .inl 3]) (w' := (SH, dt)) rfl rfl (s_gfc rfl rfl rfl (hI.2 10 1 rfl)) ?_
    refine go_toq PM39 (k := 5) (pc' := 26) (L' := [some (.inr (.inr (some 10))), some (.inl p1), some (.inl 3)]) (st' := [.inr (.inr (some 10)), .inl p1, .inr (.inr (some 11))]) (w' := (SH, dt)) rfl ?_
    refine go_smpq PM39 (L' := [some (.inr (.inr (some 10))), some (.inl p1), some (.inl 3)]) (st' := [.inl 4, .inl p1, .inr (.inr (some 11))]) (w' := (SH, dt)) rfl rfl (s_gfc rfl rfl rfl (hI.2 10 1 rfl)) ?_
    refine go_toq PM39 (k := 3) (pc' := 32) (L' := [some (.inr (.inr (some 10))), some (.inl p1), some (.inl 3)]) (st' := [.inl ((p1 * 4) + 3), .inr (.inr (some 11))]) (w' := (SH, dt)) rfl ?_
    have r3 : (-2147483648) ≤ dt 11 (((p1 * 4) + 3).toNat) ∧ dt 11 (((p1 * 4) + 3).toNat) ≤ 2147483647 := InvC_get hI 11 (((p1 * 4) + 3).toNat) rfl rfl
    refine go_smpq PM39 (L' := [some (.inr (.inr (some 10))), some (.inl p1), some (.inl 3)]) (st' := [.inl (dt 11 (((p1 * 4) + 3).toNat))]) (w' := (SH, dt)) rfl rfl (s_iald (n := 160) (f := dt 11) rfl ⟨by omega, by omega⟩) ?_
    refine go_retq PM39 (k := 1) (r := some (.inl (dt 11 (((p1 * 4) + 3).toNat)))) (w1 := (SH, dt)) rfl ?_
    exact ⟨rfl, ⟨rfl, by first | exact True.intro | with_reducible assumption | rfl | fail | trivial⟩⟩
  · skip
    exfalso; omega
theorem sp_X5_lawOf_f (L : Nat) (xs : Nat → Int32) (sio : Option Nat) (d : Nat) (dt : Nat → Nat → Int) (hI : InvC dt)  (p1 : Int) (h_p1 : 0 ≤ p1 ∧ p1 ≤ 39) (h_p0 : p1 < dt 10 3) (h_p1 : 0 ≤ dt 11 (((p1 * 4) + 0)).toNat ∧ dt 11 (((p1 * 4) + 0)).toNat ≤ 3) : GO (am_XX L xs sio) (d + 2) 109 0 [some (.inr (.inr (some 0))), some (.inl p1)] [] (SH, dt) (fun r w2 => w2 = (SH, dt) ∧ ((r = some (.inl (dt 11 (((p1 * 4) + 0)).toNat)) ∧ (0 ≤ dt 11 (((p1 * 4) + 0)).toNat ∧ dt 11 (((p1 * 4) + 0)).toNat ≤ 3)))) := by
  have r1 : 0 ≤ dt 10 3 ∧ dt 10 3 ≤ 40 := InvC_get hI 10 3 rfl rfl
  refine go_toq PM109 (k := 5) (pc' := 9) (L' := [some (.inr (.inr (some 0))), some (.inl p1)]) (st' := [.inl 0, .inl p1, .inr (.inr (some 10))]) (w' := (SH, dt)) rfl ?_
  refine go_callq PM109 PM39 (Q' := _) rfl rfl rfl rfl (sp_X2_at_10_0 L xs sio (d + 0) dt hI  p1 (by first | exact h_p1 | exact bnd h_p1 (by decide) (by decide) | exact ⟨by omega, by omega⟩) (by first | exact True.intro | with_reducible assumption | rfl | fail | trivial) (by first | exact True.intro | with_reducible assumption | rfl | fail | trivial)) ?_
  rintro _ _ ⟨rfl, h2⟩
  refine ⟨rfl, ?_⟩
  rcases h2 with ⟨rfl, h2⟩
  refine go_retq PM109 (k := 0) (r := some (.inl (dt 11 (((p1 * 4) + 0)).toNat))) (w1 := (SH, dt)) rfl ?_
  exact ⟨rfl, ⟨rfl, by first | exact True.intro | with_reducible assumption | rfl | fail | trivial⟩⟩
theorem sp_X5_weigh_f (L : Nat) (xs : Nat → Int32) (sio : Option Nat) (d : Nat) (dt : Nat → Nat → Int) (hI : InvC dt) (F : Nat → Int) (hMF : MW F) (p1 : Int) (h_p1 : 0 ≤ p1 ∧ p1 ≤ 3) (p2 : Int) (h_p2 : 0 ≤ p2 ∧ p2 ≤ 39) (p3 : Int) (h_p3 : 0 ≤ p3 ∧ p3 ≤ 11) (p4 : Int) (h_p4 : 0 ≤ p4 ∧ p4 ≤ 3) (h_p0 : ALK dt F) (h_p1 : p2 < dt 10 3) (h_p2 : p3 < dt 7 3) : GO (am_XX L xs sio) (d + 4) 118 0 [some (.inr (.inr (some 0))), some (.inl p1), some (.inl p2), some (.inl p3), some (.inl p4)] [] (SH, dt) (fun r w2 => ∃ dt2 : Nat → Nat → Int, w2 = (SH, dt2) ∧ InvC dt2 ∧ Fr [71, 72, 73, 74] dt dt2 ∧ ((r = none ∧ (WGT (dt2 72) (dt2 71 1) F (FQ F p2 p3 p4) p1)))) := by
  have hF : Fr [71, 72, 73, 74] dt dt := Fr_refl
  have r1 : 0 ≤ dt 7 3 ∧ dt 7 3 ≤ 12 := InvC_get hI 7 3 rfl rfl
  have r2 : 0 ≤ dt 10 3 ∧ dt 10 3 ≤ 40 := InvC_get hI 10 3 rfl rfl
  have ec_ := ALK_c h_p0 (c := p2) (by omega)
  have eq_ := ALK_q h_p0 hMF (q := p3) (by omega)
  have hqo_ := QOC_R h_p0.2.1 hMF h_p0.2.2.2.2.1
  refine go_toq PM118 (k := 8) (pc' := 14) (L' := [some (.inr (.inr (some 0))), some (.inl p1), some (.inl p2), some (.inl p3), some (.inl p4)]) (st' := [.inl 1, .inl p2, .inr (.inr (some 10)), .inl 0, .inr (.inr (some 71))]) (w' := (SH, dt)) rfl ?_
  refine go_callq PM118 PM39 (Q' := _) rfl rfl rfl rfl (sp_X2_at_10_1 L xs sio (d + 2) dt hI  p2 (by first | exact h_p2 | exact bnd h_p2 (by decide) (by decide) | exact ⟨by omega, by omega⟩) (by first | exact True.intro | with_reducible assumption | rfl | fail | trivial | exact hqo_ | assumption | (rw [show dt 10 3 = dt 10 3 from hF 10 (by decide) 3]; fail) | (rw [show dt 7 3 = dt 7 3 from hF 7 (by decide) 3]; fail) | (rw [show dt 8 = dt 8 from funext (hF 8 (by decide)), show dt 7 3 = dt 7 3 from hF 7 (by decide) 3]; exact hqo_) | exact h_p0.1 | (rw [show dt 4 = dt 4 from funext (hF 4 (by decide)), show dt 5 = dt 5 from funext (hF 5 (by decide)), show dt 6 = dt 6 from funext (hF 6 (by decide))]; exact h_p0.1))) ?_
  rintro _ _ ⟨rfl, h3⟩
  refine ⟨rfl, ?_⟩
  rcases h3 with ⟨rfl, h3⟩
  refine go_callq PM118 PM44 (Q' := _) rfl rfl rfl rfl (sp_X3_give_g0 L xs sio (d + 3) dt hI  (dt 11 (((p2 * 4) + 1)).toNat) ⟨by omega, by omega⟩ ) ?_
  rintro _ _ ⟨dt5, rfl, hI6, hF7, h4⟩
  refine ⟨rfl, ?_⟩
  have hF8 : Fr [71, 72, 73, 74] dt dt5 := Fr_tr hF hF7 (by decide)
  rcases h4 with ⟨rfl, h4⟩
  obtain ⟨h4_0, h4_1⟩ := h4
  have g9 := h4_1
  refine go_toq PM118 (k := 8) (pc' := 34) (L' := [some (.inr (.inr (some 0))), some (.inl p1), some (.inl p2), some (.inl p3), some (.inl p4)]) (st' := [.inl 2, .inl p2, .inr (.inr (some 10)), .inl 1, .inr (.inr (some 71))]) (w' := (SH, dt5)) rfl ?_
  refine go_callq PM118 PM39 (Q' := _) rfl rfl rfl rfl (sp_X2_at_10_2 L xs sio (d + 2) dt5 hI6  p2 (by first | exact h_p2 | exact bnd h_p2 (by decide) (by decide) | exact ⟨by omega, by omega⟩) (by first | exact True.intro | with_reducible assumption | rfl | fail | trivial | exact hqo_ | assumption | (rw [show dt5 10 3 = dt 10 3 from hF8 10 (by decide) 3]; omega) | (rw [show dt5 7 3 = dt 7 3 from hF8 7 (by decide) 3]; fail) | (rw [show dt5 8 = dt 8 from funext (hF8 8 (by decide)), show dt5 7 3 = dt 7 3 from hF8 7 (by decide) 3]; exact hqo_) | exact h_p0.1 | (rw [show dt5 4 = dt 4 from funext (hF8 4 (by decide)), show dt5 5 = dt 5 from funext (hF8 5 (by decide)), show dt5 6 = dt 6 from funext (hF8 6 (by decide))]; exact h_p0.1))) ?_
  rintro _ _ ⟨rfl, h10⟩
  refine ⟨rfl, ?_⟩
  rcases h10 with ⟨rfl, h10⟩
  have ef11 : dt5 11 (((p2 * 4) + 2)).toNat = dt 11 (((p2 * 4) + 2)).toNat := hF8 11 (by decide) _
  refine go_callq PM118 PM44 (Q' := _) rfl rfl rfl rfl (sp_X3_give_g1 L xs sio (d + 3) dt5 hI6  (dt5 11 (((p2 * 4) + 2)).toNat) ⟨by omega, by omega⟩ ) ?_
  rintro _ _ ⟨dt13, rfl, hI14, hF15, h12⟩
  refine ⟨rfl, ?_⟩
  have hF16 : Fr [71, 72, 73, 74] dt dt13 := Fr_tr hF8 hF15 (by decide)
  rcases h12 with ⟨rfl, h12⟩
  obtain ⟨h12_0, h12_1⟩ := h12
  have g17 := (h12_0 0 (by decide)).trans g9
  have g18 := h12_1.trans (hF8 11 (by decide) _)
  refine go_toq PM118 (k := 4) (pc' := 47) (L' := [some (.inr (.inr (some 0))), some (.inl p1), some (.inl p2), some (.inl p3), some (.inl p4)]) (st' := [.inl p4, .inl 2, .inr (.inr (some 71))]) (w' := (SH, dt13)) rfl ?_
  refine go_callq PM118 PM44 (Q' := _) rfl rfl rfl rfl (sp_X3_give_g2 L xs sio (d + 3) dt13 hI14  p4 (by first | exact h_p4 | exact bnd h_p4 (by decide) (by decide) | exact ⟨by fail, by fail⟩) ) ?_
  rintro _ _ ⟨dt20, rfl, hI21, hF22, h19⟩
  refine ⟨rfl, ?_⟩
  have hF23 : Fr [71, 72, 73, 74] dt dt20 := Fr_tr hF16 hF22 (by decide)
  rcases h19 with ⟨rfl, h19⟩
  obtain ⟨h19_0, h19_1⟩ := h19
  have g24 := (h19_0 0 (by decide)).trans g17
  have g25 := (h19_0 1 (by decide)).trans g18
  have g26 := h19_1
  refine go_toq PM118 (k := 7) (pc' := 62) (L' := [some (.inr (.inr (some 0))), some (.inl p1), some (.inl p2), some (.inl p3), some (.inl p4)]) (st' := [.inl 10, .inl p3, .inr (.inr (some 1)), .inl 3, .inr (.inr (some 71))]) (w' := (SH, dt20)) rfl ?_
  refine go_callq PM118 PM1 (Q' := _) rfl rfl rfl rfl (sp_X0_saidOf_f L xs sio (d + 2) dt20 hI21  p3 (by first | exact h_p3 | exact bnd h_p3 (by decide) (by decide) | exact ⟨by fail, by fail⟩) 10 ⟨by decide, by decide⟩ (by first | exact True.intro | with_reducible assumption | rfl | fail | trivial | exact hqo_ | assumption | (rw [show dt20 10 3 = dt 10 3 from hF23 10 (by decide) 3]; fail) | (rw [show dt20 7 3 = dt 7 3 from hF23 7 (by decide) 3]; omega) | (rw [show dt20 8 = dt 8 from funext (hF23 8 (by decide)), show dt20 7 3 = dt 7 3 from hF23 7 (by decide) 3]; exact hqo_) | exact h_p0.1 | (rw [show dt20 4 = dt 4 from funext (hF23 4 (by decide)), show dt20 5 = dt 5 from funext (hF23 5 (by decide)), show dt20 6 = dt 6 from funext (hF23 6 (by decide))]; exact h_p0.1))) ?_
  rintro _ _ ⟨rfl, h27⟩
  refine ⟨rfl, ?_⟩
  rcases h27 with ⟨rfl, h27⟩
  have ef28 : dt20 9 (((p3 * 11) + 10)).toNat = dt 9 (((p3 * 11) + 10)).toNat := hF23 9 (by decide) _
  refine go_callq PM118 PM44 (Q' := _) rfl rfl rfl rfl (sp_X3_give_g3 L xs sio (d + 3) dt20 hI21  (dt20 9 (((p3 * 11) + 10)).toNat) ⟨by omega, by omega⟩ ) ?_
  rintro _ _ ⟨dt30, rfl, hI31, hF32, h29⟩
  refine ⟨rfl, ?_⟩
  have hF33 : Fr [71, 72, 73, 74] dt dt30 := Fr_tr hF23 hF32 (by decide)
  rcases h29 with ⟨rfl, h29⟩
  obtain ⟨h29_0, h29_1⟩ := h29
  have g34 := (h29_0 0 (by decide)).trans g24
  have g35 := (h29_0 1 (by decide)).trans g25
  have g36 := (h29_0 2 (by decide)).trans g26
  have g37 := h29_1.trans (hF23 9 (by decide) _)
  refine go_toq PM118 (k := 8) (pc' := 82) (L' := [some (.inr (.inr (some 0))), some (.inl p1), some (.inl p2), some (.inl p3), some (.inl p4)]) (st' := [.inl 3, .inl p2, .inr (.inr (some 10)), .inl 4, .inr (.inr (some 71))]) (w' := (SH, dt30)) rfl ?_
  refine go_callq PM118 PM39 (Q' := _) rfl rfl rfl rfl (sp_X2_at_10_3 L xs sio (d + 2) dt30 hI31  p2 (by first | exact h_p2 | exact bnd h_p2 (by decide) (by decide) | exact ⟨by omega, by omega⟩) (by first | exact True.intro | with_reducible assumption | rfl | fail | trivial | exact hqo_ | assumption | (rw [show dt30 10 3 = dt 10 3 from hF33 10 (by decide) 3]; omega) | (rw [show dt30 7 3 = dt 7 3 from hF33 7 (by decide) 3]; fail) | (rw [show dt30 8 = dt 8 from funext (hF33 8 (by decide)), show dt30 7 3 = dt 7 3 from hF33 7 (by decide) 3]; exact hqo_) | exact h_p0.1 | (rw [show dt30 4 = dt 4 from funext (hF33 4 (by decide)), show dt30 5 = dt 5 from funext (hF33 5 (by decide)), show dt30 6 = dt 6 from funext (hF33 6 (by decide))]; exact h_p0.1))) ?_
  rintro _ _ ⟨rfl, h38⟩
  refine ⟨rfl, ?_⟩
  rcases h38 with ⟨rfl, h38⟩
  have ef39 : dt30 11 (((p2 * 4) + 3)).toNat = dt 11 (((p2 * 4) + 3)).toNat := hF33 11 (by decide) _
  refine go_callq PM118 PM44 (Q' := _) rfl rfl rfl rfl (sp_X3_give_g4 L xs sio (d + 3) dt30 hI31  (dt30 11 (((p2 * 4) + 3)).toNat) ⟨by omega, by omega⟩ ) ?_
  rintro _ _ ⟨dt41, rfl, hI42, hF43, h40⟩
  refine ⟨rfl, ?_⟩
  have hF44 : Fr [71, 72, 73, 74] dt dt41 := Fr_tr hF33 hF43 (by decide)
  rcases h40 with ⟨rfl, h40⟩
  obtain ⟨h40_0, h40_1⟩ := h40
  have g45 := (h40_0 0 (by decide)).trans g34
  have g46 := (h40_0 1 (by decide)).trans g35
  have g47 := (h40_0 2 (by decide)).trans g36
  have g48 := (h40_0 3 (by decide)).trans g37
  have g49 := h40_1.trans (hF33 11 (by decide) _)
  refine go_toq PM118 (k := 8) (pc' := 102) (L' := [some (.inr (.inr (some 0))), some (.inl p1), some (.inl p2), some (.inl p3), some (.inl p4)]) (st' := [.inl 1, .inl p3, .inr (.inr (some 7)), .inl 5, .inr (.inr (some 71))]) (w' := (SH, dt41)) rfl ?_
  refine go_callq PM118 PM39 (Q' := _) rfl rfl rfl rfl (sp_X2_at_7_1 L xs sio (d + 2) dt41 hI42  p3 (by first | exact h_p3 | exact bnd h_p3 (by decide) (by decide) | exact ⟨by fail, by fail⟩) (by first | exact True.intro | with_reducible assumption | rfl | fail | trivial | exact hqo_ | assumption | (rw [show dt41 10 3 = dt 10 3 from hF44 10 (by decide) 3]; fail) | (rw [show dt41 7 3 = dt 7 3 from hF44 7 (by decide) 3]; omega) | (rw [show dt41 8 = dt 8 from funext (hF44 8 (by decide)), show dt41 7 3 = dt 7 3 from hF44 7 (by decide) 3]; exact hqo_) | exact h_p0.1 | (rw [show dt41 4 = dt 4 from funext (hF44 4 (by decide)), show dt41 5 = dt 5 from funext (hF44 5 (by decide)), show dt41 6 = dt 6 from funext (hF44 6 (by decide))]; exact h_p0.1)) (by first | exact True.intro | with_reducible assumption | rfl | fail | trivial | exact hqo_ | assumption | (rw [show dt41 10 3 = dt 10 3 from hF44 10 (by decide) 3]; fail) | (rw [show dt41 7 3 = dt 7 3 from hF44 7 (by decide) 3]; fail) | (rw [show dt41 8 = dt 8 from funext (hF44 8 (by decide)), show dt41 7 3 = dt 7 3 from hF44 7 (by decide) 3]; exact hqo_) | exact h_p0.1 | (rw [show dt41 4 = dt 4 from funext (hF44 4 (by decide)), show dt41 5 = dt 5 from funext (hF44 5 (by decide)), show dt41 6 = dt 6 from funext (hF44 6 (by decide))]; exact h_p0.1))) ?_
  rintro _ _ ⟨rfl, h50⟩
  refine ⟨rfl, ?_⟩
  rcases h50 with ⟨rfl, h50⟩
  have ef51 : dt41 8 (((p3 * 5) + 1)).toNat = dt 8 (((p3 * 5) + 1)).toNat := hF44 8 (by decide) _
  refine go_ifq PM118 (k := 1) (p1 := 113) (p2 := 109) (L' := [some (.inr (.inr (some 0))), some (.inl p1), some (.inl p2), some (.inl p3), some (.inl p4)]) (st' := [.inl 5, .inr (.inr (some 71))]) (w' := (SH, dt41)) rfl (c_ne (a := dt41 8 (((p3 * 5) + 1)).toNat) (b := 1) ⟨by omega, by omega⟩ ⟨by decide, by decide⟩) (fun c52 => ?_) (fun c52 => ?_)
  · skip
    replace c52 := hid c52
    refine go_toq PM118 (k := 1) (pc' := 114) (L' := [some (.inr (.inr (some 0))), some (.inl p1), some (.inl p2), some (.inl p3), some (.inl p4)]) (st' := [.inl 0, .inl 5, .inr (.inr (some 71))]) (w' := (SH, dt41)) rfl ?_
    refine go_callq PM118 PM44 (Q' := _) rfl rfl rfl rfl (sp_X3_give_g5 L xs sio (d + 3) dt41 hI42  0 ⟨by decide, by decide⟩ ) ?_
    rintro _ _ ⟨dt54, rfl, hI55, hF56, h53⟩
    refine ⟨rfl, ?_⟩
    have hF57 : Fr [71, 72, 73, 74] dt dt54 := Fr_tr hF44 hF56 (by decide)
    rcases h53 with ⟨rfl, h53⟩
    obtain ⟨h53_0, h53_1⟩ := h53
    have g58 := (h53_0 0 (by decide)).trans g45
    have g59 := (h53_0 1 (by decide)).trans g46
    have g60 := (h53_0 2 (by decide)).trans g47
    have g61 := (h53_0 3 (by decide)).trans g48
    have g62 := (h53_0 4 (by decide)).trans g49
    have g63 := h53_1
    refine go_toq PM118 (k := 5) (pc' := 126) (L' := [some (.inr (.inr (some 0))), some (.inl p1), some (.inl p2), some (.inl p3), some (.inl p4)]) (st' := [.inl p1, .inr (.inr (some 1)), .inr (.inr (some 71))]) (w' := (SH, dt54)) rfl ?_
    refine go_callq PM118 PM45 (Q' := _) rfl rfl rfl rfl (sp_X3_weigh_f L xs sio (d + 0) dt54 hI55 F hMF p1 (by first | exact h_p1 | exact bnd h_p1 (by decide) (by decide) | exact ⟨by omega, by omega⟩) (by first | exact True.intro | with_reducible assumption | exact unhid (by with_reducible assumption) | rfl | fail | trivial | exact hqo_ | assumption | (rw [show dt54 10 3 = dt 10 3 from hF57 10 (by decide) 3]; fail) | (rw [show dt54 7 3 = dt 7 3 from hF57 7 (by decide) 3]; fail) | (rw [show dt54 8 = dt 8 from funext (hF57 8 (by decide)), show dt54 7 3 = dt 7 3 from hF57 7 (by decide) 3]; exact hqo_) | exact h_p0.1 | (rw [show dt54 4 = dt 4 from funext (hF57 4 (by decide)), show dt54 5 = dt 5 from funext (hF57 5 (by decide)), show dt54 6 = dt 6 from funext (hF57 6 (by decide))]; exact h_p0.1))) ?_
    rintro _ _ ⟨dt65, rfl, hI66, hF67, h64⟩
    refine ⟨rfl, ?_⟩
    have hF68 : Fr [71, 72, 73, 74] dt dt65 := Fr_tr hF57 hF67 (by decide)
    rcases h64 with ⟨rfl, h64⟩
    have wg69 := WGT_fa h64 (FQ_FAC (c := p2) (q := p3) (how := p4) (g58.trans ec_.2.1) (g59.trans ec_.2.2.1) g60 (g61.trans eq_.2.2) (g62.trans ec_.2.2.2) (g63.trans (by (have z_ := unhid c52; omega))))
    refine go_retq PM118 (k := 0) (r := none) (w1 := (SH, dt65)) rfl ?_
    exact ⟨dt65, rfl, hI66, hF68, ⟨rfl, by exact wg69⟩⟩
  · skip
    refine go_toq PM118 (k := 2) (pc' := 114) (L' := [some (.inr (.inr (some 0))), some (.inl p1), some (.inl p2), some (.inl p3), some (.inl p4)]) (st' := [.inl 1, .inl 5, .inr (.inr (some 71))]) (w' := (SH, dt41)) rfl ?_
    refine go_callq PM118 PM44 (Q' := _) rfl rfl rfl rfl (sp_X3_give_g5 L xs sio (d + 3) dt41 hI42  1 ⟨by decide, by decide⟩ ) ?_
    rintro _ _ ⟨dt71, rfl, hI72, hF73, h70⟩
    refine ⟨rfl, ?_⟩
    have hF74 : Fr [71, 72, 73, 74] dt dt71 := Fr_tr hF44 hF73 (by decide)
    rcases h70 with ⟨rfl, h70⟩
    obtain ⟨h70_0, h70_1⟩ := h70
    have g75 := (h70_0 0 (by decide)).trans g45
    have g76 := (h70_0 1 (by decide)).trans g46
    have g77 := (h70_0 2 (by decide)).trans g47
    have g78 := (h70_0 3 (by decide)).trans g48
    have g79 := (h70_0 4 (by decide)).trans g49
    have g80 := h70_1
    refine go_toq PM118 (k := 5) (pc' := 126) (L' := [some (.inr (.inr (some 0))), some (.inl p1), some (.inl p2), some (.inl p3), some (.inl p4)]) (st' := [.inl p1, .inr (.inr (some 1)), .inr (.inr (some 71))]) (w' := (SH, dt71)) rfl ?_
    refine go_callq PM118 PM45 (Q' := _) rfl rfl rfl rfl (sp_X3_weigh_f L xs sio (d + 0) dt71 hI72 F hMF p1 (by first | exact h_p1 | exact bnd h_p1 (by decide) (by decide) | exact ⟨by omega, by omega⟩) (by first | exact True.intro | with_reducible assumption | rfl | fail | trivial | exact hqo_ | assumption | (rw [show dt71 10 3 = dt 10 3 from hF74 10 (by decide) 3]; fail) | (rw [show dt71 7 3 = dt 7 3 from hF74 7 (by decide) 3]; fail) | (rw [show dt71 8 = dt 8 from funext (hF74 8 (by decide)), show dt71 7 3 = dt 7 3 from hF74 7 (by decide) 3]; exact hqo_) | exact h_p0.1 | (rw [show dt71 4 = dt 4 from funext (hF74 4 (by decide)), show dt71 5 = dt 5 from funext (hF74 5 (by decide)), show dt71 6 = dt 6 from funext (hF74 6 (by decide))]; exact h_p0.1))) ?_
    rintro _ _ ⟨dt82, rfl, hI83, hF84, h81⟩
    refine ⟨rfl, ?_⟩
    have hF85 : Fr [71, 72, 73, 74] dt dt82 := Fr_tr hF74 hF84 (by decide)
    rcases h81 with ⟨rfl, h81⟩
    have wg86 := WGT_fa h81 (FQ_FAC (c := p2) (q := p3) (how := p4) (g75.trans ec_.2.1) (g76.trans ec_.2.2.1) g77 (g78.trans eq_.2.2) (g79.trans ec_.2.2.2) (g80.trans (by omega)))
    refine go_retq PM118 (k := 0) (r := none) (w1 := (SH, dt82)) rfl ?_
    exact ⟨dt82, rfl, hI83, hF85, ⟨rfl, by exact wg86⟩⟩
theorem sp_X5_weight_f (L : Nat) (xs : Nat → Int32) (sio : Option Nat) (d : Nat) (dt : Nat → Nat → Int) (hI : InvC dt) (F : Nat → Int) (hMF : MW F) (p1 : Int) (h_p1 : (-2147483648) ≤ p1 ∧ p1 ≤ 2147483647) (p2 : Int) (h_p2 : (-2147483648) ≤ p2 ∧ p2 ≤ 2147483647) (p3 : Int) (h_p3 : (-2147483648) ≤ p3 ∧ p3 ≤ 2147483647) (p4 : Int) (h_p4 : (-2147483648) ≤ p4 ∧ p4 ≤ 2147483647) (h_p0 : ALK dt F) : GO (am_XX L xs sio) (d + 5) 78 0 [some (.inr (.inr (some 0))), some (.inl p1), some (.inl p2), some (.inl p3), some (.inl p4)] [] (SH, dt) (fun r w2 => ∃ dt2 : Nat → Nat → Int, w2 = (SH, dt2) ∧ InvC dt2 ∧ Fr [71, 72, 73, 74] dt dt2 ∧ ((r = some (.inl (-1)) ∧ (¬ ((0 ≤ p1 ∧ p1 < dt 10 3) ∧ (0 ≤ p2 ∧ p2 < dt 7 3) ∧ (0 ≤ p3 ∧ p3 ≤ 3) ∧ (0 ≤ p4 ∧ p4 ≤ 8)))) ∨ (∃ v : Int, r = some (.inl v) ∧ (0 ≤ v ∧ v ≤ 100) ∧ ((0 ≤ p1 ∧ p1 < dt 10 3) ∧ (0 ≤ p2 ∧ p2 < dt 7 3) ∧ (0 ≤ p3 ∧ p3 ≤ 3) ∧ (0 ≤ p4 ∧ p4 ≤ 8)) ∧ (v = WH F (FQ F p1 p2 p3) (F (5380 + 4 * p1.toNat)) p4)))) := by
  have hF : Fr [71, 72, 73, 74] dt dt := Fr_refl
  have r1 : 0 ≤ dt 7 3 ∧ dt 7 3 ≤ 12 := InvC_get hI 7 3 rfl rfl
  have r2 : 0 ≤ dt 10 3 ∧ dt 10 3 ≤ 40 := InvC_get hI 10 3 rfl rfl
  refine go_toq PM78 (k := 4) (pc' := 4) (L' := [some (.inr (.inr (some 0))), some (.inl p1), some (.inl p2), some (.inl p3), some (.inl p4)]) (st' := [.inl p3, .inl p2, .inl p1, .inr (.inr (some 0))]) (w' := (SH, dt)) rfl ?_
  refine go_callq PM78 PM108 (Q' := _) rfl rfl rfl rfl (sp_X5_canAsk L xs sio (d + 3) dt hI  p1 (by first | exact h_p1 | exact bnd h_p1 (by decide) (by decide) | exact ⟨by fail, by fail⟩) p2 (by first | exact h_p2 | exact bnd h_p2 (by decide) (by decide) | exact ⟨by fail, by fail⟩) p3 (by first | exact h_p3 | exact bnd h_p3 (by decide) (by decide) | exact ⟨by fail, by fail⟩) ) ?_
  rintro _ _ ⟨rfl, h3⟩
  refine ⟨rfl, ?_⟩
  rcases h3 with ⟨rfl, h3⟩ | ⟨rfl, h3⟩
  · skip
    obtain ⟨h3_0, h3_1, h3_2⟩ := h3
    have ec_ := ALK_c h_p0 (c := p1) (by omega)
    have el_ := ALK_l h_p0 hMF (c := p1) (by omega)
    refine go_toq PM78 (k := 4) (pc' := 15) (L' := [some (.inr (.inr (some 0))), some (.inl p1), some (.inl p2), some (.inl p3), some (.inl p4)]) (st' := [.inl 8, .inl 0, .inl p4]) (w' := (SH, dt)) rfl ?_
    refine go_callq PM78 PM100 (Q' := _) rfl rfl rfl rfl (sp_X5_within L xs sio (d + 4) dt hI  p4 (by first | exact h_p4 | exact bnd h_p4 (by decide) (by decide) | exact ⟨by fail, by fail⟩) 0 ⟨by decide, by decide⟩ 8 ⟨by decide, by decide⟩ ) ?_
    rintro _ _ ⟨rfl, h4⟩
    refine ⟨rfl, ?_⟩
    rcases h4 with ⟨rfl, h4⟩ | ⟨rfl, h4⟩
    · skip
      refine go_toq PM78 (k := 4) (pc' := 26) (L' := [some (.inr (.inr (some 0))), some (.inl p1), some (.inl p2), some (.inl p3), some (.inl p4)]) (st' := [.inl p1, .inr (.inr (some 0)), .inr (.inr (some 0))]) (w' := (SH, dt)) rfl ?_
      refine go_callq PM78 PM109 (Q' := _) rfl rfl rfl rfl (sp_X5_lawOf_f L xs sio (d + 2) dt hI  p1 (by first | exact h_p1 | exact bnd h_p1 (by decide) (by decide) | exact ⟨by omega, by omega⟩) (by first | exact True.intro | with_reducible assumption | rfl | omega | trivial | exact h_p0 | assumption) (by first | exact True.intro | with_reducible assumption | rfl | fail | trivial | exact h_p0 | assumption)) ?_
      rintro _ _ ⟨rfl, h5⟩
      refine ⟨rfl, ?_⟩
      rcases h5 with ⟨rfl, h5⟩
      refine go_toq PM78 (k := 3) (pc' := 32) (L' := [some (.inr (.inr (some 0))), some (.inl p1), some (.inl p2), some (.inl p3), some (.inl p4)]) (st' := [.inl p3, .inl p2, .inl p1, .inl (dt 11 (((p1 * 4) + 0)).toNat), .inr (.inr (some 0))]) (w' := (SH, dt)) rfl ?_
      refine go_callq PM78 PM118 (Q' := _) rfl rfl rfl rfl (sp_X5_weigh_f L xs sio (d + 0) dt hI F hMF (dt 11 (((p1 * 4) + 0)).toNat) ⟨by omega, by omega⟩ p1 (by first | exact h_p1 | exact bnd h_p1 (by decide) (by decide) | exact ⟨by omega, by omega⟩) p2 (by first | exact h_p2 | exact bnd h_p2 (by decide) (by decide) | exact ⟨by omega, by omega⟩) p3 (by first | exact h_p3 | exact bnd h_p3 (by decide) (by decide) | exact ⟨by omega, by omega⟩) (by first | exact True.intro | with_reducible assumption | rfl | fail | trivial | exact h_p0 | assumption) (by first | exact True.intro | with_reducible assumption | rfl | omega | trivial | exact h_p0 | assumption) (by first | exact True.intro | with_reducible assumption | rfl | omega | trivial | exact h_p0 | assumption)) ?_
      rintro _ _ ⟨dt7, rfl, hI8, hF9, h6⟩
      refine ⟨rfl, ?_⟩
      have hF10 : Fr [71, 72, 73, 74] dt dt7 := Fr_tr hF hF9 (by decide)
      rcases h6 with ⟨rfl, h6⟩
      refine go_toq PM78 (k := 4) (pc' := 44) (L' := [some (.inr (.inr (some 0))), some (.inl p1), some (.inl p2), some (.inl p3), some (.inl p4)]) (st' := [.inl p4, .inr (.inr (some 72))]) (w' := (SH, dt7)) rfl ?_
      have r11 : 0 ≤ dt7 72 (p4).toNat ∧ dt7 72 (p4).toNat ≤ 100 := InvC_get hI8 72 (p4).toNat rfl rfl
      refine go_smpq PM78 (L' := [some (.inr (.inr (some 0))), some (.inl p1), some (.inl p2), some (.inl p3), some (.inl p4)]) (st' := [.inl (dt7 72 (p4).toNat)]) (w' := (SH, dt7)) rfl rfl (s_iald (n := 9) (f := dt7 72) rfl (by first | exact bndx h_p4 (by decide) (by decide) | exact ⟨by omega, by omega⟩)) ?_
      refine go_retq PM78 (k := 0) (r := some (.inl (dt7 72 (p4).toNat))) (w1 := (SH, dt7)) rfl ?_
      exact ⟨dt7, rfl, hI8, hF10, (Or.inr ⟨_, rfl, (by first | exact bnd r11 (by decide) (by decide) | exact ⟨by fail, by fail⟩), ⟨by first | exact True.intro | with_reducible assumption | rfl | omega | trivial, by rw [← ec_.1]; exact WGT_r h6 ⟨by omega, by omega⟩⟩⟩)⟩
    · skip
      refine go_retq PM78 (k := 2) (r := some (.inl (-1))) (w1 := (SH, dt)) rfl ?_
      first | exact ⟨dt, rfl, hI, hF, (Or.inl ⟨rfl, by first | exact True.intro | with_reducible assumption | rfl | omega | trivial⟩)⟩ | exact ⟨dt, rfl, hI, hF, (Or.inr ⟨_, rfl, ⟨by decide, by decide⟩, ⟨by first | exact True.intro | with_reducible assumption | rfl | fail | trivial, by rw [← ec_.1]; exact WGT_r hI ⟨by fail, by fail⟩⟩⟩)⟩
  · skip
    refine go_retq PM78 (k := 2) (r := some (.inl (-1))) (w1 := (SH, dt)) rfl ?_
    first | exact ⟨dt, rfl, hI, hF, (Or.inl ⟨rfl, by first | exact True.intro | with_reducible assumption | rfl | omega | trivial⟩)⟩ | exact ⟨dt, rfl, hI, hF, (Or.inr ⟨_, rfl, ⟨by decide, by decide⟩, ⟨by first | exact True.intro | with_reducible assumption | rfl | fail | trivial, by rw [← ec_.1]; exact WGT_r hI ⟨by fail, by fail⟩⟩⟩)⟩
