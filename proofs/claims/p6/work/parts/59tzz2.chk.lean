theorem chk_sp_X5_settle_f (L : Nat) (xs : Nat → Int32) (sio : Option Nat) (d : Nat) (dt : Nat → Nat → Int) (hI : InvC dt)  (p1 : Int) (h_p1 : 0 ≤ p1 ∧ p1 ≤ 11) (h_p0 : p1 < dt 7 3) (h_p1 : QOC (dt 8) (dt 7 3)) (h_p2 : WOK 24 (VC 44 dt)) : GO (am_XX L xs sio) (d + 4) 114 0 [some (.inr (.inr (some 0))), some (.inl p1), none] [] (SH, dt) (fun r w2 => ∃ dt2 : Nat → Nat → Int, w2 = (SH, dt2) ∧ InvC dt2 ∧ Fr [9] dt dt2 ∧ ((r = none ∧ (∀ r : Nat, r ≤ 10 → dt2 9 (11 * p1.toNat + r) = SDW (VC 44 dt) (dt 8 (5 * p1.toNat + 1)) (dt 8 (5 * p1.toNat + 2)) (dt 8 (5 * p1.toNat + 3)) (dt 8 (5 * p1.toNat + 4)) (r : Int)) ∧ (∀ j : Nat, (j < 11 * p1.toNat ∨ 11 * p1.toNat + 11 ≤ j) → dt2 9 j = dt 9 j)))) := by
  have hF : Fr [9] dt dt := Fr_refl
  have r1 : 0 ≤ dt 7 3 ∧ dt 7 3 ≤ 12 := InvC_get hI 7 3 rfl rfl
  refine go_to (k := 4) (pc' := 8) (L' := [some (.inr (.inr (some 0))), some (.inl p1), none]) (st' := [.inl p1, .inr (.inr (some 7))]) (w' := (SH, dt)) (fun _ => rfl) ?_
  refine go_call (Q' := _) rfl rfl rfl rfl rfl (sp_X2_has_7 L xs sio (d + 3) dt hI  p1 ⟨by omega, by omega⟩ ) ?_
  rintro _ _ ⟨rfl, h2⟩
  refine ⟨rfl, ?_⟩
  rcases h2 with ⟨rfl, h2⟩ | ⟨rfl, h2⟩
  · skip
    refine go_to (k := 3) (pc' := 17) (L' := [some (.inr (.inr (some 0))), some (.inl p1), some (.inl 0)]) (st' := []) (w' := (SH, dt)) (fun _ => rfl) ?_
    have loop14 : ∀ (k_ : Nat) (l17_2 : Int) (dt8 : Nat → Nat → Int) (hI9 : InvC dt8) (hF10 : Fr [9] dt dt8) (i11 : 0 ≤ l17_2 ∧ l17_2 ≤ 9) (i12 : STL (dt8 9) (dt 8) (VC 44 dt) p1 l17_2) (i13 : ∀ j : Nat, (j < 11 * p1.toNat ∨ 11 * p1.toNat + 11 ≤ j) → dt8 9 j = dt 9 j), (10 - l17_2).toNat < k_ → GO (am_XX L xs sio) (d + 4) 114 17 [some (.inr (.inr (some 0))), some (.inl p1), some (.inl l17_2)] [] (SH, dt8) (fun r w2 => ∃ dt2 : Nat → Nat → Int, w2 = (SH, dt2) ∧ InvC dt2 ∧ Fr [9] dt dt2 ∧ ((r = none ∧ (∀ r : Nat, r ≤ 10 → dt2 9 (11 * p1.toNat + r) = SDW (VC 44 dt) (dt 8 (5 * p1.toNat + 1)) (dt 8 (5 * p1.toNat + 2)) (dt 8 (5 * p1.toNat + 3)) (dt 8 (5 * p1.toNat + 4)) (r : Int)) ∧ (∀ j : Nat, (j < 11 * p1.toNat ∨ 11 * p1.toNat + 11 ≤ j) → dt2 9 j = dt 9 j)))) := by
      intro k_
      induction k_ with
      | zero => intro l17_2 dt8 hI9 hF10 i11 i12 i13 hm; exact absurd hm (Nat.not_lt_zero _)
      | succ k_ ih_loop14 =>
        intro l17_2 dt8 hI9 hF10 i11 i12 i13 hm
        have qS := i12
        have qK := i13
        refine go_if (k := 3) (p1 := 53) (p2 := 23) (L' := [some (.inr (.inr (some 0))), some (.inl p1), some (.inl l17_2)]) (st' := []) (w' := (SH, dt8)) (fun _ => rfl) (c_gt (a := l17_2) (b := 8) ⟨by omega, by omega⟩ ⟨by omega, by omega⟩) (fun c15 => ?_) (fun c15 => ?_)
        · skip
          refine go_to (k := 4) (pc' := 60) (L' := [some (.inr (.inr (some 0))), some (.inl p1), some (.inl l17_2)]) (st' := [.inl 8, .inl p1, .inr (.inr (some 1))]) (w' := (SH, dt8)) (fun _ => rfl) ?_
          refine go_call (Q' := _) rfl rfl rfl rfl rfl (sp_X0_saidOf_f L xs sio (d + 2) dt8 hI9  p1 ⟨by omega, by omega⟩ 8 ⟨by omega, by omega⟩ (by first | trivial | omega | assumption | (rw [show dt8 8 = dt 8 from funext (hF10 8 (by decide)), show dt8 7 3 = dt 7 3 from hF10 7 (by decide) 3]; exact h_p1) | (rw [show VC 44 dt8 = VC 44 dt from VC_frS hF10 (by decide)]; exact h_p2))) ?_
          rintro _ _ ⟨rfl, h16⟩
          refine ⟨rfl, ?_⟩
          rcases h16 with ⟨rfl, h16⟩
          refine go_to (k := 4) (pc' := 69) (L' := [some (.inr (.inr (some 0))), some (.inl p1), some (.inl l17_2)]) (st' := [.inl 0, .inl p1, .inr (.inr (some 1)), .inl (dt8 9 (((p1 * 11) + 8)).toNat)]) (w' := (SH, dt8)) (fun _ => rfl) ?_
          refine go_call (Q' := _) rfl rfl rfl rfl rfl (sp_X0_saidOf_f L xs sio (d + 2) dt8 hI9  p1 ⟨by omega, by omega⟩ 0 ⟨by omega, by omega⟩ (by first | trivial | omega | assumption | (rw [show dt8 8 = dt 8 from funext (hF10 8 (by decide)), show dt8 7 3 = dt 7 3 from hF10 7 (by decide) 3]; exact h_p1) | (rw [show VC 44 dt8 = VC 44 dt from VC_frS hF10 (by decide)]; exact h_p2))) ?_
          rintro _ _ ⟨rfl, h17⟩
          refine ⟨rfl, ?_⟩
          rcases h17 with ⟨rfl, h17⟩
          refine go_if (k := 1) (p1 := 79) (p2 := 75) (L' := [some (.inr (.inr (some 0))), some (.inl p1), some (.inl l17_2)]) (st' := []) (w' := (SH, dt8)) (fun _ => rfl) (c_eq (a := dt8 9 (((p1 * 11) + 8)).toNat) (b := dt8 9 (((p1 * 11) + 0)).toNat) ⟨by omega, by omega⟩ ⟨by omega, by omega⟩) (fun c18 => ?_) (fun c18 => ?_)
          · skip
            refine go_to (k := 13) (pc' := 104) (L' := [some (.inr (.inr (some 0))), some (.inl p1), some (.inl 0)]) (st' := [.inl 0, .inl ((p1 * 11) + 9), .inr (.inr (some 9))]) (w' := (SH, dt8)) (fun _ => rfl) ?_
            have hI19 : InvC (u2 dt8 9 (((p1 * 11) + 9).toNat) 0) := InvC_u2 hI9 (lo := -2147483648) (hi := 2147483647) rfl rfl rfl (by omega) (by omega)
            have hF20 : Fr [9] dt (u2 dt8 9 (((p1 * 11) + 9).toNat) 0) := Fr_u2 hF10 (by decide)
            have S21 : STL ((u2 dt8 9 (((p1 * 11) + 9).toNat) 0) 9) (dt 8) (VC 44 dt) p1 10 := STL_9 (B1 := dt8 9) (by have z_ := qS; rw [show l17_2 = 9 by omega] at z_; exact z_) (by omega) rfl u2_eq ⟨fun e_ => by rw [show 11 * p1.toNat + 8 = (((p1 * 11) + 8)).toNat by omega, show 11 * p1.toNat + 0 = (((p1 * 11) + 0)).toNat by omega] at e_; omega, fun e_ => by rw [show 11 * p1.toNat + 8 = (((p1 * 11) + 8)).toNat by omega, show 11 * p1.toNat + 0 = (((p1 * 11) + 0)).toNat by omega] at e_; omega⟩ (fun j hj => u2_ne (fun z_ => hj z_.2))
            have K22 : ∀ j : Nat, (j < 11 * p1.toNat ∨ 11 * p1.toNat + 11 ≤ j) → (u2 dt8 9 (((p1 * 11) + 9).toNat) 0) 9 j = dt 9 j := fun j hj => (u2_ne (by omega)).trans (qK j hj)
            refine go_smp (L' := [some (.inr (.inr (some 0))), some (.inl p1), some (.inl 0)]) (st' := []) (w' := (SH, (u2 dt8 9 (((p1 * 11) + 9).toNat) 0))) rfl rfl (s_iast (n := 132) rfl ⟨by omega, by omega⟩ ⟨by omega, by omega⟩) ?_
            refine go_to (k := 10) (pc' := 123) (L' := [some (.inr (.inr (some 0))), some (.inl p1), some (.inl 0)]) (st' := [.inr (.inr (some 43)), .inl ((p1 * 11) + 10), .inr (.inr (some 9))]) (w' := (SH, (u2 dt8 9 (((p1 * 11) + 9).toNat) 0))) (fun _ => rfl) ?_
            refine go_call (Q' := _) rfl rfl rfl rfl rfl (sp_X4_allMoves_f44 L xs sio (d + 3) (u2 dt8 9 (((p1 * 11) + 9).toNat) 0) hI19   (by first | trivial | omega | assumption | (rw [show (u2 dt8 9 (((p1 * 11) + 9).toNat) 0) 8 = dt 8 from funext (hF20 8 (by decide)), show (u2 dt8 9 (((p1 * 11) + 9).toNat) 0) 7 3 = dt 7 3 from hF20 7 (by decide) 3]; exact h_p1) | (rw [show VC 44 (u2 dt8 9 (((p1 * 11) + 9).toNat) 0) = VC 44 dt from VC_frS hF20 (by decide)]; exact h_p2))) ?_
            rintro _ _ ⟨rfl, h23⟩
            refine ⟨rfl, ?_⟩
            rcases h23 with ⟨v_h23, rfl, h23r, h23⟩
            have hm24 := h23
            rw [show VC 44 (u2 dt8 9 (((p1 * 11) + 9).toNat) 0) = VC 44 dt from VC_frS hF20 (by decide)] at hm24
            have hI25 : InvC (u2 (u2 dt8 9 (((p1 * 11) + 9).toNat) 0) 9 (((p1 * 11) + 10).toNat) v_h23) := InvC_u2 hI19 (lo := -2147483648) (hi := 2147483647) rfl rfl rfl (by omega) (by omega)
            have hF26 : Fr [9] dt (u2 (u2 dt8 9 (((p1 * 11) + 9).toNat) 0) 9 (((p1 * 11) + 10).toNat) v_h23) := Fr_u2 hF20 (by decide)
            have S27 : STL ((u2 (u2 dt8 9 (((p1 * 11) + 9).toNat) 0) 9 (((p1 * 11) + 10).toNat) v_h23) 9) (dt 8) (VC 44 dt) p1 11 := STL_10 (B1 := (u2 dt8 9 (((p1 * 11) + 9).toNat) 0) 9) S21 (by omega) rfl u2_eq hm24 (fun j hj => u2_ne (fun z_ => hj z_.2))
            have K28 : ∀ j : Nat, (j < 11 * p1.toNat ∨ 11 * p1.toNat + 11 ≤ j) → (u2 (u2 dt8 9 (((p1 * 11) + 9).toNat) 0) 9 (((p1 * 11) + 10).toNat) v_h23) 9 j = dt 9 j := fun j hj => (u2_ne (by omega)).trans (K22 j hj)
            refine go_smp (L' := [some (.inr (.inr (some 0))), some (.inl p1), some (.inl 0)]) (st' := []) (w' := (SH, (u2 (u2 dt8 9 (((p1 * 11) + 9).toNat) 0) 9 (((p1 * 11) + 10).toNat) v_h23))) rfl rfl (s_iast (n := 132) rfl ⟨by omega, by omega⟩ ⟨by omega, by omega⟩) ?_
            refine go_ret (k := 1) (r := none) (w1 := (SH, (u2 (u2 dt8 9 (((p1 * 11) + 9).toNat) 0) 9 (((p1 * 11) + 10).toNat) v_h23))) (fun _ => rfl) ?_
            exact ⟨(u2 (u2 dt8 9 (((p1 * 11) + 9).toNat) 0) 9 (((p1 * 11) + 10).toNat) v_h23), rfl, hI25, hF26, ⟨rfl, ⟨by exact STL_A S27 (by omega), by exact K28⟩⟩⟩
          · skip
            refine go_to (k := 15) (pc' := 104) (L' := [some (.inr (.inr (some 0))), some (.inl p1), some (.inl 1)]) (st' := [.inl 1, .inl ((p1 * 11) + 9), .inr (.inr (some 9))]) (w' := (SH, dt8)) (fun _ => rfl) ?_
            have hI29 : InvC (u2 dt8 9 (((p1 * 11) + 9).toNat) 1) := InvC_u2 hI9 (lo := -2147483648) (hi := 2147483647) rfl rfl rfl (by omega) (by omega)
            have hF30 : Fr [9] dt (u2 dt8 9 (((p1 * 11) + 9).toNat) 1) := Fr_u2 hF10 (by decide)
            have S31 : STL ((u2 dt8 9 (((p1 * 11) + 9).toNat) 1) 9) (dt 8) (VC 44 dt) p1 10 := STL_9 (B1 := dt8 9) (by have z_ := qS; rw [show l17_2 = 9 by omega] at z_; exact z_) (by omega) rfl u2_eq ⟨fun e_ => by rw [show 11 * p1.toNat + 8 = (((p1 * 11) + 8)).toNat by omega, show 11 * p1.toNat + 0 = (((p1 * 11) + 0)).toNat by omega] at e_; omega, fun e_ => by rw [show 11 * p1.toNat + 8 = (((p1 * 11) + 8)).toNat by omega, show 11 * p1.toNat + 0 = (((p1 * 11) + 0)).toNat by omega] at e_; omega⟩ (fun j hj => u2_ne (fun z_ => hj z_.2))
            have K32 : ∀ j : Nat, (j < 11 * p1.toNat ∨ 11 * p1.toNat + 11 ≤ j) → (u2 dt8 9 (((p1 * 11) + 9).toNat) 1) 9 j = dt 9 j := fun j hj => (u2_ne (by omega)).trans (qK j hj)
            refine go_smp (L' := [some (.inr (.inr (some 0))), some (.inl p1), some (.inl 1)]) (st' := []) (w' := (SH, (u2 dt8 9 (((p1 * 11) + 9).toNat) 1))) rfl rfl (s_iast (n := 132) rfl ⟨by omega, by omega⟩ ⟨by omega, by omega⟩) ?_
            refine go_to (k := 10) (pc' := 123) (L' := [some (.inr (.inr (some 0))), some (.inl p1), some (.inl 1)]) (st' := [.inr (.inr (some 43)), .inl ((p1 * 11) + 10), .inr (.inr (some 9))]) (w' := (SH, (u2 dt8 9 (((p1 * 11) + 9).toNat) 1))) (fun _ => rfl) ?_
            refine go_call (Q' := _) rfl rfl rfl rfl rfl (sp_X4_allMoves_f44 L xs sio (d + 3) (u2 dt8 9 (((p1 * 11) + 9).toNat) 1) hI29   (by first | trivial | omega | assumption | (rw [show (u2 dt8 9 (((p1 * 11) + 9).toNat) 1) 8 = dt 8 from funext (hF30 8 (by decide)), show (u2 dt8 9 (((p1 * 11) + 9).toNat) 1) 7 3 = dt 7 3 from hF30 7 (by decide) 3]; exact h_p1) | (rw [show VC 44 (u2 dt8 9 (((p1 * 11) + 9).toNat) 1) = VC 44 dt from VC_frS hF30 (by decide)]; exact h_p2))) ?_
            rintro _ _ ⟨rfl, h33⟩
            refine ⟨rfl, ?_⟩
            rcases h33 with ⟨v_h33, rfl, h33r, h33⟩
            have hm34 := h33
            rw [show VC 44 (u2 dt8 9 (((p1 * 11) + 9).toNat) 1) = VC 44 dt from VC_frS hF30 (by decide)] at hm34
            have hI35 : InvC (u2 (u2 dt8 9 (((p1 * 11) + 9).toNat) 1) 9 (((p1 * 11) + 10).toNat) v_h33) := InvC_u2 hI29 (lo := -2147483648) (hi := 2147483647) rfl rfl rfl (by omega) (by omega)
            have hF36 : Fr [9] dt (u2 (u2 dt8 9 (((p1 * 11) + 9).toNat) 1) 9 (((p1 * 11) + 10).toNat) v_h33) := Fr_u2 hF30 (by decide)
            have S37 : STL ((u2 (u2 dt8 9 (((p1 * 11) + 9).toNat) 1) 9 (((p1 * 11) + 10).toNat) v_h33) 9) (dt 8) (VC 44 dt) p1 11 := STL_10 (B1 := (u2 dt8 9 (((p1 * 11) + 9).toNat) 1) 9) S31 (by omega) rfl u2_eq hm34 (fun j hj => u2_ne (fun z_ => hj z_.2))
            have K38 : ∀ j : Nat, (j < 11 * p1.toNat ∨ 11 * p1.toNat + 11 ≤ j) → (u2 (u2 dt8 9 (((p1 * 11) + 9).toNat) 1) 9 (((p1 * 11) + 10).toNat) v_h33) 9 j = dt 9 j := fun j hj => (u2_ne (by omega)).trans (K32 j hj)
            refine go_smp (L' := [some (.inr (.inr (some 0))), some (.inl p1), some (.inl 1)]) (st' := []) (w' := (SH, (u2 (u2 dt8 9 (((p1 * 11) + 9).toNat) 1) 9 (((p1 * 11) + 10).toNat) v_h33))) rfl rfl (s_iast (n := 132) rfl ⟨by omega, by omega⟩ ⟨by omega, by omega⟩) ?_
            refine go_ret (k := 1) (r := none) (w1 := (SH, (u2 (u2 dt8 9 (((p1 * 11) + 9).toNat) 1) 9 (((p1 * 11) + 10).toNat) v_h33))) (fun _ => rfl) ?_
            exact ⟨(u2 (u2 dt8 9 (((p1 * 11) + 9).toNat) 1) 9 (((p1 * 11) + 10).toNat) v_h33), rfl, hI35, hF36, ⟨rfl, ⟨by exact STL_A S37 (by omega), by exact K38⟩⟩⟩
        · skip
          refine go_to (k := 13) (pc' := 43) (L' := [some (.inr (.inr (some 0))), some (.inl p1), some (.inl l17_2)]) (st' := [.inl l17_2, .inl p1, .inr (.inr (some 43)), .inr (.inr (some 0)), .inl ((p1 * 11) + l17_2), .inr (.inr (some 9))]) (w' := (SH, dt8)) (fun _ => rfl) ?_
          refine go_call (Q' := _) rfl rfl rfl rfl rfl (sp_X5_ruleIn_f44 L xs sio (d + 0) dt8 hI9  p1 ⟨by omega, by omega⟩ l17_2 ⟨by omega, by omega⟩ (by first | trivial | omega | assumption | (rw [show dt8 8 = dt 8 from funext (hF10 8 (by decide)), show dt8 7 3 = dt 7 3 from hF10 7 (by decide) 3]; exact h_p1) | (rw [show VC 44 dt8 = VC 44 dt from VC_frS hF10 (by decide)]; exact h_p2)) (by first | trivial | omega | assumption | (rw [show dt8 8 = dt 8 from funext (hF10 8 (by decide)), show dt8 7 3 = dt 7 3 from hF10 7 (by decide) 3]; exact h_p1) | (rw [show VC 44 dt8 = VC 44 dt from VC_frS hF10 (by decide)]; exact h_p2))) ?_
          rintro _ _ ⟨rfl, h39⟩
          refine ⟨rfl, ?_⟩
          rcases h39 with ⟨v_h39, rfl, h39r, h39⟩
          rw [show dt8 8 = dt 8 from funext (hF10 8 (by decide)), show VC 44 dt8 = VC 44 dt from VC_frS hF10 (by decide)] at h39
          have hI40 : InvC (u2 dt8 9 (((p1 * 11) + l17_2).toNat) v_h39) := InvC_u2 hI9 (lo := -2147483648) (hi := 2147483647) rfl rfl rfl (by omega) (by omega)
          have hF41 : Fr [9] dt (u2 dt8 9 (((p1 * 11) + l17_2).toNat) v_h39) := Fr_u2 hF10 (by decide)
          refine go_smp (L' := [some (.inr (.inr (some 0))), some (.inl p1), some (.inl l17_2)]) (st' := []) (w' := (SH, (u2 dt8 9 (((p1 * 11) + l17_2).toNat) v_h39))) rfl rfl (s_iast (n := 132) rfl ⟨by omega, by omega⟩ ⟨by omega, by omega⟩) ?_
          refine go_to (k := 2) (pc' := 17) (L' := [some (.inr (.inr (some 0))), some (.inl p1), some (.inl (l17_2 + 1))]) (st' := []) (w' := (SH, (u2 dt8 9 (((p1 * 11) + l17_2).toNat) v_h39))) (fun _ => rfl) ?_
          exact GO.le (ih_loop14 (l17_2 + 1) (u2 dt8 9 (((p1 * 11) + l17_2).toNat) v_h39) hI40 hF41 (by first | omega | exact STL_0 | exact fun _ _ => rfl | exact STL_s qS (by omega) (by omega) rfl u2_eq h39 (fun j hj => u2_ne (fun z_ => hj z_.2)) | (intro j hj; rw [u2_ne (by omega)]; exact qK j hj)) (by first | omega | exact STL_0 | exact fun _ _ => rfl | exact STL_s qS (by omega) (by omega) rfl u2_eq h39 (fun j hj => u2_ne (fun z_ => hj z_.2)) | (intro j hj; rw [u2_ne (by omega)]; exact qK j hj)) (by first | omega | exact STL_0 | exact fun _ _ => rfl | exact STL_s qS (by omega) (by omega) rfl u2_eq h39 (fun j hj => u2_ne (fun z_ => hj z_.2)) | (intro j hj; rw [u2_ne (by omega)]; exact qK j hj)) (by omega)) ⟨.inl rfl, .inl rfl, .inl rfl, trivial⟩
    exact GO.le (loop14 _ 0 dt hI hF (by first | omega | exact STL_0 | exact fun _ _ => rfl | exact STL_s qS (by omega) (by omega) rfl u2_eq hI (fun j hj => u2_ne (fun z_ => hj z_.2)) | (intro j hj; rw [u2_ne (by omega)]; exact qK j hj)) (by first | omega | exact STL_0 | exact fun _ _ => rfl | exact STL_s qS (by omega) (by omega) rfl u2_eq hI (fun j hj => u2_ne (fun z_ => hj z_.2)) | (intro j hj; rw [u2_ne (by omega)]; exact qK j hj)) (by first | omega | exact STL_0 | exact fun _ _ => rfl | exact STL_s qS (by omega) (by omega) rfl u2_eq hI (fun j hj => u2_ne (fun z_ => hj z_.2)) | (intro j hj; rw [u2_ne (by omega)]; exact qK j hj)) (Nat.lt_succ_self _)) ⟨.inl rfl, .inl rfl, .inl rfl, trivial⟩
  · skip
    exfalso; omega
theorem chk_sp_X5_settleAll_f (L : Nat) (xs : Nat → Int32) (sio : Option Nat) (d : Nat) (dt : Nat → Nat → Int) (hI : InvC dt) (F : Nat → Int) (hMF : MW F) (p1 : Int) (h_p1 : 0 ≤ p1 ∧ p1 ≤ 7) (h_p0 : SCL (dt 2) (dt 3) F) (h_p1 : QOC (dt 8) (dt 7 3)) : GO (am_XX L xs sio) (d + 5) 115 0 [some (.inr (.inr (some 0))), some (.inl p1), none] [] (SH, dt) (fun r w2 => ∃ dt2 : Nat → Nat → Int, w2 = (SH, dt2) ∧ InvC dt2 ∧ Fr [9, 44, 45, 46, 47, 48, 49, 50, 51, 52, 53, 54, 55, 56] dt dt2 ∧ ((r = none ∧ (SAL (dt 9) (dt2 9) (dt 8) (wend F p1) p1 (dt 7 3))))) := by
  have hF : Fr [9, 44, 45, 46, 47, 48, 49, 50, 51, 52, 53, 54, 55, 56] dt dt := Fr_refl
  have r1 : 0 ≤ dt 7 3 ∧ dt 7 3 ≤ 12 := InvC_get hI 7 3 rfl rfl
  have hok_ : WOK 24 (wend F p1) := by have z_ := MW_am hMF p1 ⟨by omega, by omega⟩; exact WOK_m (WOK_pl hMF (k := p1.toNat) (by omega) (F (6 + p1).toNat).toNat (by omega)) (by omega)
  refine go_to (k := 2) (pc' := 2) (L' := [some (.inr (.inr (some 0))), some (.inl p1), none]) (st' := [.inl p1, .inr (.inr (some 0))]) (w' := (SH, dt)) (fun _ => rfl) ?_
  refine go_call (Q' := _) rfl rfl rfl rfl rfl (sp_X5_play_wF L xs sio (d + 0) dt hI F hMF p1 ⟨by omega, by omega⟩ (by first | trivial | omega | assumption | (rw [show dt 8 = dt 8 from funext (hF 8 (by decide)), show dt 7 3 = dt 7 3 from hF 7 (by decide) 3]; exact h_p1) | (rw [qW]; exact hok_))) ?_
  rintro _ _ ⟨dt3, rfl, hI4, hF5, h2⟩
  refine ⟨rfl, ?_⟩
  have hF6 : Fr [9, 44, 45, 46, 47, 48, 49, 50, 51, 52, 53, 54, 55, 56] dt dt3 := Fr_tr hF hF5 (by decide)
  rcases h2 with ⟨rfl, h2⟩
  refine go_to (k := 2) (pc' := 7) (L' := [some (.inr (.inr (some 0))), some (.inl p1), some (.inl 0)]) (st' := []) (w' := (SH, dt3)) (fun _ => rfl) ?_
  have loop24 : ∀ (k_ : Nat) (l7_2 : Int) (dt17 : Nat → Nat → Int) (hI18 : InvC dt17) (hF19 : Fr [9, 44, 45, 46, 47, 48, 49, 50, 51, 52, 53, 54, 55, 56] dt dt17) (i20 : 0 ≤ l7_2 ∧ l7_2 ≤ 12) (i21 : SAL (dt 9) (dt17 9) (dt 8) (wend F p1) p1 l7_2) (i22 : VC 44 dt17 = wend F p1) (i23 : l7_2 ≤ dt 7 3), (13 - l7_2).toNat < k_ → GO (am_XX L xs sio) (d + 5) 115 7 [some (.inr (.inr (some 0))), some (.inl p1), some (.inl l7_2)] [] (SH, dt17) (fun r w2 => ∃ dt2 : Nat → Nat → Int, w2 = (SH, dt2) ∧ InvC dt2 ∧ Fr [9, 44, 45, 46, 47, 48, 49, 50, 51, 52, 53, 54, 55, 56] dt dt2 ∧ ((r = none ∧ (SAL (dt 9) (dt2 9) (dt 8) (wend F p1) p1 (dt 7 3))))) := by
    intro k_
    induction k_ with
    | zero => intro l7_2 dt17 hI18 hF19 i20 i21 i22 i23 hm; exact absurd hm (Nat.not_lt_zero _)
    | succ k_ ih_loop24 =>
      intro l7_2 dt17 hI18 hF19 i20 i21 i22 i23 hm
      have qS := i21
      have qW := i22
      have qF := hF19
      refine go_to (k := 4) (pc' := 15) (L' := [some (.inr (.inr (some 0))), some (.inl p1), some (.inl l7_2)]) (st' := [.inr (.inr (some 7)), .inl l7_2]) (w' := (SH, dt17)) (fun _ => rfl) ?_
      refine go_smp (L' := [some (.inr (.inr (some 0))), some (.inl p1), some (.inl l7_2)]) (st' := [.inl (dt 7 3), .inl l7_2]) (w' := (SH, dt17)) rfl rfl (s_gfc rfl rfl rfl (hF19 7 (by decide) 3)) ?_
      refine go_if (k := 1) (p1 := 48) (p2 := 21) (L' := [some (.inr (.inr (some 0))), some (.inl p1), some (.inl l7_2)]) (st' := []) (w' := (SH, dt17)) (fun _ => rfl) (c_ge (a := l7_2) (b := dt 7 3) ⟨by omega, by omega⟩ ⟨by omega, by omega⟩) (fun c25 => ?_) (fun c25 => ?_)
      · skip
        refine go_ret (k := 1) (r := none) (w1 := (SH, dt17)) (fun _ => rfl) ?_
        exact ⟨dt17, rfl, hI18, hF19, ⟨rfl, by exact SAL_e qS (by omega)⟩⟩
      · skip
        refine go_to (k := 5) (pc' := 30) (L' := [some (.inr (.inr (some 0))), some (.inl p1), some (.inl l7_2)]) (st' := [.inl 0, .inl l7_2, .inr (.inr (some 7))]) (w' := (SH, dt17)) (fun _ => rfl) ?_
        refine go_call (Q' := _) rfl rfl rfl rfl rfl (sp_X2_at_7_0 L xs sio (d + 3) dt17 hI18  l7_2 ⟨by omega, by omega⟩ (by first | trivial | omega | assumption | (rw [show dt17 8 = dt 8 from funext (hF19 8 (by decide)), show dt17 7 3 = dt 7 3 from hF19 7 (by decide) 3]; exact h_p1) | (rw [qW]; exact hok_)) (by first | trivial | omega | assumption | (rw [show dt17 8 = dt 8 from funext (hF19 8 (by decide)), show dt17 7 3 = dt 7 3 from hF19 7 (by decide) 3]; exact h_p1) | (rw [qW]; exact hok_))) ?_
        rintro _ _ ⟨rfl, h26⟩
        refine ⟨rfl, ?_⟩
        rcases h26 with ⟨rfl, h26⟩
        refine go_if (k := 2) (p1 := 42) (p2 := 37) (L' := [some (.inr (.inr (some 0))), some (.inl p1), some (.inl l7_2)]) (st' := []) (w' := (SH, dt17)) (fun _ => rfl) (c_ne (a := dt17 8 (((l7_2 * 5) + 0)).toNat) (b := p1) ⟨by omega, by omega⟩ ⟨by omega, by omega⟩) (fun c27 => ?_) (fun c27 => ?_)
        · skip
          refine go_to (k := 2) (pc' := 7) (L' := [some (.inr (.inr (some 0))), some (.inl p1), some (.inl (l7_2 + 1))]) (st' := []) (w' := (SH, dt17)) (fun _ => rfl) ?_
          exact GO.le (ih_loop24 (l7_2 + 1) dt17 hI18 hF19 (by first | omega | exact h2 | exact qW | (rw [show dt3 9 = dt 9 from funext (hF6 9 (by decide))]; exact SAL_0) | exact SAL_y qS (by omega) (show dt 8 (5 * l7_2.toNat) = p1 by rw [show 5 * l7_2.toNat = (((l7_2 * 5) + 0)).toNat by omega, ← (qF 8 (by decide) _)]; omega) hI hI | exact SAL_n qS (by omega) (show ¬ dt 8 (5 * l7_2.toNat) = p1 by rw [show 5 * l7_2.toNat = (((l7_2 * 5) + 0)).toNat by omega, ← (qF 8 (by decide) _)]; omega)) (by first | omega | exact h2 | exact qW | (rw [show dt3 9 = dt 9 from funext (hF6 9 (by decide))]; exact SAL_0) | exact SAL_y qS (by omega) (show dt 8 (5 * l7_2.toNat) = p1 by rw [show 5 * l7_2.toNat = (((l7_2 * 5) + 0)).toNat by omega, ← (qF 8 (by decide) _)]; omega) hI hI | exact SAL_n qS (by omega) (show ¬ dt 8 (5 * l7_2.toNat) = p1 by rw [show 5 * l7_2.toNat = (((l7_2 * 5) + 0)).toNat by omega, ← (qF 8 (by decide) _)]; omega)) (by first | omega | exact h2 | exact qW | (rw [show dt3 9 = dt 9 from funext (hF6 9 (by decide))]; exact SAL_0) | exact SAL_y qS (by omega) (show dt 8 (5 * l7_2.toNat) = p1 by rw [show 5 * l7_2.toNat = (((l7_2 * 5) + 0)).toNat by omega, ← (qF 8 (by decide) _)]; omega) hI hI | exact SAL_n qS (by omega) (show ¬ dt 8 (5 * l7_2.toNat) = p1 by rw [show 5 * l7_2.toNat = (((l7_2 * 5) + 0)).toNat by omega, ← (qF 8 (by decide) _)]; omega)) (by first | omega | exact h2 | exact qW | (rw [show dt3 9 = dt 9 from funext (hF6 9 (by decide))]; exact SAL_0) | exact SAL_y qS (by omega) (show dt 8 (5 * l7_2.toNat) = p1 by rw [show 5 * l7_2.toNat = (((l7_2 * 5) + 0)).toNat by omega, ← (qF 8 (by decide) _)]; omega) hI hI | exact SAL_n qS (by omega) (show ¬ dt 8 (5 * l7_2.toNat) = p1 by rw [show 5 * l7_2.toNat = (((l7_2 * 5) + 0)).toNat by omega, ← (qF 8 (by decide) _)]; omega)) (by omega)) ⟨.inl rfl, .inl rfl, .inl rfl, trivial⟩
        · skip
          refine go_to (k := 2) (pc' := 39) (L' := [some (.inr (.inr (some 0))), some (.inl p1), some (.inl l7_2)]) (st' := [.inl l7_2, .inr (.inr (some 0))]) (w' := (SH, dt17)) (fun _ => rfl) ?_
          refine go_call (Q' := _) rfl rfl rfl rfl rfl (sp_X5_settle_f L xs sio (d + 0) dt17 hI18  l7_2 ⟨by omega, by omega⟩ (by first | trivial | omega | assumption | (rw [show dt17 8 = dt 8 from funext (hF19 8 (by decide)), show dt17 7 3 = dt 7 3 from hF19 7 (by decide) 3]; exact h_p1) | (rw [qW]; exact hok_)) (by first | trivial | omega | assumption | (rw [show dt17 8 = dt 8 from funext (hF19 8 (by decide)), show dt17 7 3 = dt 7 3 from hF19 7 (by decide) 3]; exact h_p1) | (rw [qW]; exact hok_)) (by first | trivial | omega | assumption | (rw [show dt17 8 = dt 8 from funext (hF19 8 (by decide)), show dt17 7 3 = dt 7 3 from hF19 7 (by decide) 3]; exact h_p1) | (rw [qW]; exact hok_))) ?_
          rintro _ _ ⟨dt29, rfl, hI30, hF31, h28⟩
          refine ⟨rfl, ?_⟩
          have hF32 : Fr [9, 44, 45, 46, 47, 48, 49, 50, 51, 52, 53, 54, 55, 56] dt dt29 := Fr_tr hF19 hF31 (by decide)
          rcases h28 with ⟨rfl, h28⟩
          obtain ⟨h28_0, h28_1⟩ := h28
          have h33 := h28_0
          rw [show dt17 8 = dt 8 from funext (hF19 8 (by decide)), qW] at h33
          refine go_to (k := 2) (pc' := 7) (L' := [some (.inr (.inr (some 0))), some (.inl p1), some (.inl (l7_2 + 1))]) (st' := []) (w' := (SH, dt29)) (fun _ => rfl) ?_
          exact GO.le (ih_loop24 (l7_2 + 1) dt29 hI30 hF32 (by first | omega | exact ((VC_frS hF31 (by decide)).trans qW) | exact qW | (rw [show dt3 9 = dt 9 from funext (hF6 9 (by decide))]; exact SAL_0) | exact SAL_y qS (by omega) (show dt 8 (5 * l7_2.toNat) = p1 by rw [show 5 * l7_2.toNat = (((l7_2 * 5) + 0)).toNat by omega, ← (qF 8 (by decide) _)]; omega) h33 h28_1 | exact SAL_n qS (by omega) (show ¬ dt 8 (5 * l7_2.toNat) = p1 by rw [show 5 * l7_2.toNat = (((l7_2 * 5) + 0)).toNat by omega, ← (qF 8 (by decide) _)]; omega)) (by first | omega | exact ((VC_frS hF31 (by decide)).trans qW) | exact qW | (rw [show dt3 9 = dt 9 from funext (hF6 9 (by decide))]; exact SAL_0) | exact SAL_y qS (by omega) (show dt 8 (5 * l7_2.toNat) = p1 by rw [show 5 * l7_2.toNat = (((l7_2 * 5) + 0)).toNat by omega, ← (qF 8 (by decide) _)]; omega) h33 h28_1 | exact SAL_n qS (by omega) (show ¬ dt 8 (5 * l7_2.toNat) = p1 by rw [show 5 * l7_2.toNat = (((l7_2 * 5) + 0)).toNat by omega, ← (qF 8 (by decide) _)]; omega)) (by first | omega | exact ((VC_frS hF31 (by decide)).trans qW) | exact qW | (rw [show dt3 9 = dt 9 from funext (hF6 9 (by decide))]; exact SAL_0) | exact SAL_y qS (by omega) (show dt 8 (5 * l7_2.toNat) = p1 by rw [show 5 * l7_2.toNat = (((l7_2 * 5) + 0)).toNat by omega, ← (qF 8 (by decide) _)]; omega) h33 h28_1 | exact SAL_n qS (by omega) (show ¬ dt 8 (5 * l7_2.toNat) = p1 by rw [show 5 * l7_2.toNat = (((l7_2 * 5) + 0)).toNat by omega, ← (qF 8 (by decide) _)]; omega)) (by first | omega | exact ((VC_frS hF31 (by decide)).trans qW) | exact qW | (rw [show dt3 9 = dt 9 from funext (hF6 9 (by decide))]; exact SAL_0) | exact SAL_y qS (by omega) (show dt 8 (5 * l7_2.toNat) = p1 by rw [show 5 * l7_2.toNat = (((l7_2 * 5) + 0)).toNat by omega, ← (qF 8 (by decide) _)]; omega) h33 h28_1 | exact SAL_n qS (by omega) (show ¬ dt 8 (5 * l7_2.toNat) = p1 by rw [show 5 * l7_2.toNat = (((l7_2 * 5) + 0)).toNat by omega, ← (qF 8 (by decide) _)]; omega)) (by omega)) ⟨.inl rfl, .inl rfl, .inl rfl, trivial⟩
  exact GO.le (loop24 _ 0 dt3 hI4 hF6 (by first | omega | exact h2 | exact qW | (rw [show dt3 9 = dt 9 from funext (hF6 9 (by decide))]; exact SAL_0) | exact SAL_y qS (by omega) (show dt 8 (5 * l7_2.toNat) = p1 by rw [show 5 * l7_2.toNat = (((l7_2 * 5) + 0)).toNat by omega, ← (qF 8 (by decide) _)]; omega) hI hI | exact SAL_n qS (by omega) (show ¬ dt 8 (5 * l7_2.toNat) = p1 by rw [show 5 * l7_2.toNat = (((l7_2 * 5) + 0)).toNat by omega, ← (qF 8 (by decide) _)]; omega)) (by first | omega | exact h2 | exact qW | (rw [show dt3 9 = dt 9 from funext (hF6 9 (by decide))]; exact SAL_0) | exact SAL_y qS (by omega) (show dt 8 (5 * l7_2.toNat) = p1 by rw [show 5 * l7_2.toNat = (((l7_2 * 5) + 0)).toNat by omega, ← (qF 8 (by decide) _)]; omega) hI hI | exact SAL_n qS (by omega) (show ¬ dt 8 (5 * l7_2.toNat) = p1 by rw [show 5 * l7_2.toNat = (((l7_2 * 5) + 0)).toNat by omega, ← (qF 8 (by decide) _)]; omega)) (by first | omega | exact h2 | exact qW | (rw [show dt3 9 = dt 9 from funext (hF6 9 (by decide))]; exact SAL_0) | exact SAL_y qS (by omega) (show dt 8 (5 * l7_2.toNat) = p1 by rw [show 5 * l7_2.toNat = (((l7_2 * 5) + 0)).toNat by omega, ← (qF 8 (by decide) _)]; omega) hI hI | exact SAL_n qS (by omega) (show ¬ dt 8 (5 * l7_2.toNat) = p1 by rw [show 5 * l7_2.toNat = (((l7_2 * 5) + 0)).toNat by omega, ← (qF 8 (by decide) _)]; omega)) (by first | omega | exact h2 | exact qW | (rw [show dt3 9 = dt 9 from funext (hF6 9 (by decide))]; exact SAL_0) | exact SAL_y qS (by omega) (show dt 8 (5 * l7_2.toNat) = p1 by rw [show 5 * l7_2.toNat = (((l7_2 * 5) + 0)).toNat by omega, ← (qF 8 (by decide) _)]; omega) hI hI | exact SAL_n qS (by omega) (show ¬ dt 8 (5 * l7_2.toNat) = p1 by rw [show 5 * l7_2.toNat = (((l7_2 * 5) + 0)).toNat by omega, ← (qF 8 (by decide) _)]; omega)) (Nat.lt_succ_self _)) ⟨.inl rfl, .inl rfl, .inl rfl, trivial⟩
theorem chk_sp_X0_copyFrom_1q (L : Nat) (xs : Nat → Int32) (sio : Option Nat) (d : Nat) (dt : Nat → Nat → Int) (hI : InvC dt)    : GO (am_XX L xs sio) (d + 2) 4 0 [some (.inr (.inr (some 1))), some (.inr (.inr (some 18)))] [] (SH, dt) (fun r w2 => ∃ dt2 : Nat → Nat → Int, w2 = (SH, dt2) ∧ InvC dt2 ∧ Fr [1, 2, 3, 4, 5, 6, 7, 8, 9, 10, 11, 12, 13, 14, 15, 16, 17] dt dt2 ∧ ((r = none ∧ (dt2 1 0 = dt 18 0) ∧ (dt2 7 3 = dt 24 3) ∧ (dt2 10 3 = dt 27 3) ∧ (dt2 12 3 = dt 29 3) ∧ (dt2 14 3 = dt 31 3) ∧ (dt2 16 3 = dt 33 3) ∧ (∀ j : Nat, j < 192 → dt2 2 j = dt 19 j) ∧ (∀ j : Nat, j < 8 → dt2 3 j = dt 20 j) ∧ (∀ j : Nat, j < 60 → dt2 8 j = dt 25 j) ∧ (∀ j : Nat, j < 132 → dt2 9 j = dt 26 j)))) := by
  have hF : Fr [1, 2, 3, 4, 5, 6, 7, 8, 9, 10, 11, 12, 13, 14, 15, 16, 17] dt dt := Fr_refl
  have r1 : (-2147483648) ≤ dt 18 0 ∧ dt 18 0 ≤ 2147483647 := InvC_get hI 18 0 rfl rfl
  refine go_to (k := 3) (pc' := 5) (L' := [some (.inr (.inr (some 1))), some (.inr (.inr (some 18)))]) (st' := [.inl (dt 18 0), .inr (.inr (some 1))]) (w' := (SH, dt)) (fun _ => rfl) ?_
  have hI2 : InvC (u2 dt 1 0 (dt 18 0)) := InvC_u2 hI (lo := -2147483648) (hi := 2147483647) rfl rfl rfl (by omega) (by omega)
  have hF3 : Fr [1, 2, 3, 4, 5, 6, 7, 8, 9, 10, 11, 12, 13, 14, 15, 16, 17] dt (u2 dt 1 0 (dt 18 0)) := Fr_u2 hF (by decide)
  have w4 : (u2 dt 1 0 (dt 18 0)) 1 0 = dt 18 0 := rfl
  have w5 : (u2 dt 1 0 (dt 18 0)) 7 3 = dt 7 3 := rfl
  have w6 : (u2 dt 1 0 (dt 18 0)) 10 3 = dt 10 3 := rfl
  have w7 : (u2 dt 1 0 (dt 18 0)) 12 3 = dt 12 3 := rfl
  have w8 : (u2 dt 1 0 (dt 18 0)) 14 3 = dt 14 3 := rfl
  have w9 : (u2 dt 1 0 (dt 18 0)) 16 3 = dt 16 3 := rfl
  have w10 : (u2 dt 1 0 (dt 18 0)) 18 0 = dt 18 0 := rfl
  have w11 : (u2 dt 1 0 (dt 18 0)) 24 3 = dt 24 3 := rfl
  have w12 : (u2 dt 1 0 (dt 18 0)) 27 3 = dt 27 3 := rfl
  have w13 : (u2 dt 1 0 (dt 18 0)) 29 3 = dt 29 3 := rfl
  have w14 : (u2 dt 1 0 (dt 18 0)) 31 3 = dt 31 3 := rfl
  have w15 : (u2 dt 1 0 (dt 18 0)) 33 3 = dt 33 3 := rfl
  refine go_smp (L' := [some (.inr (.inr (some 1))), some (.inr (.inr (some 18)))]) (st' := []) (w' := (SH, (u2 dt 1 0 (dt 18 0)))) rfl rfl (s_pf rfl rfl rfl rfl ⟨by omega, by omega⟩) ?_
  refine go_to (k := 9) (pc' := 23) (L' := [some (.inr (.inr (some 1))), some (.inr (.inr (some 18)))]) (st' := [.inl 192, .inl 0, .inr (.inr (some 2)), .inl 0, .inr (.inr (some 19))]) (w' := (SH, (u2 dt 1 0 (dt 18 0)))) (fun _ => rfl) ?_
  have hI16 : InvC (am_cp (u2 dt 1 0 (dt 18 0)) 19 2 0 0 192) := InvC_cp hI2 (fun _ _ => rfl) (fun _ _ => rfl) (fun _ => rfl)
  have hF17 : Fr [1, 2, 3, 4, 5, 6, 7, 8, 9, 10, 11, 12, 13, 14, 15, 16, 17] dt (am_cp (u2 dt 1 0 (dt 18 0)) 19 2 0 0 192) := Fr_cp hF3 (by decide)
  have w18 : (am_cp (u2 dt 1 0 (dt 18 0)) 19 2 0 0 192) 1 0 = (u2 dt 1 0 (dt 18 0)) 1 0 := rfl
  have w19 : (am_cp (u2 dt 1 0 (dt 18 0)) 19 2 0 0 192) 7 3 = (u2 dt 1 0 (dt 18 0)) 7 3 := rfl
  have w20 : (am_cp (u2 dt 1 0 (dt 18 0)) 19 2 0 0 192) 10 3 = (u2 dt 1 0 (dt 18 0)) 10 3 := rfl
  have w21 : (am_cp (u2 dt 1 0 (dt 18 0)) 19 2 0 0 192) 12 3 = (u2 dt 1 0 (dt 18 0)) 12 3 := rfl
  have w22 : (am_cp (u2 dt 1 0 (dt 18 0)) 19 2 0 0 192) 14 3 = (u2 dt 1 0 (dt 18 0)) 14 3 := rfl
  have w23 : (am_cp (u2 dt 1 0 (dt 18 0)) 19 2 0 0 192) 16 3 = (u2 dt 1 0 (dt 18 0)) 16 3 := rfl
  have w24 : (am_cp (u2 dt 1 0 (dt 18 0)) 19 2 0 0 192) 18 0 = (u2 dt 1 0 (dt 18 0)) 18 0 := rfl
  have w25 : (am_cp (u2 dt 1 0 (dt 18 0)) 19 2 0 0 192) 24 3 = (u2 dt 1 0 (dt 18 0)) 24 3 := rfl
  have w26 : (am_cp (u2 dt 1 0 (dt 18 0)) 19 2 0 0 192) 27 3 = (u2 dt 1 0 (dt 18 0)) 27 3 := rfl
  have w27 : (am_cp (u2 dt 1 0 (dt 18 0)) 19 2 0 0 192) 29 3 = (u2 dt 1 0 (dt 18 0)) 29 3 := rfl
  have w28 : (am_cp (u2 dt 1 0 (dt 18 0)) 19 2 0 0 192) 31 3 = (u2 dt 1 0 (dt 18 0)) 31 3 := rfl
  have w29 : (am_cp (u2 dt 1 0 (dt 18 0)) 19 2 0 0 192) 33 3 = (u2 dt 1 0 (dt 18 0)) 33 3 := rfl
  have T30 : ∀ j : Nat, j < 192 → (am_cp (u2 dt 1 0 (dt 18 0)) 19 2 0 0 192) 2 j = dt 19 j := fun j hj => (cp_atv hj).trans (hF3 19 (by decide) j)
  refine go_cpy (L' := [some (.inr (.inr (some 1))), some (.inr (.inr (some 18)))]) (st' := []) (w' := (SH, (am_cp (u2 dt 1 0 (dt 18 0)) 19 2 0 0 192))) rfl rfl (s_cpy (n0 := 192) (n1 := 192) rfl rfl ⟨⟨by omega, by omega, by omega⟩, by omega, by omega, by decide⟩) ?_
  refine go_to (k := 9) (pc' := 41) (L' := [some (.inr (.inr (some 1))), some (.inr (.inr (some 18)))]) (st' := [.inl 8, .inl 0, .inr (.inr (some 3)), .inl 0, .inr (.inr (some 20))]) (w' := (SH, (am_cp (u2 dt 1 0 (dt 18 0)) 19 2 0 0 192))) (fun _ => rfl) ?_
  have hI31 : InvC (am_cp (am_cp (u2 dt 1 0 (dt 18 0)) 19 2 0 0 192) 20 3 0 0 8) := InvC_cp hI16 (fun _ _ => rfl) (fun _ _ => rfl) (fun _ => rfl)
  have hF32 : Fr [1, 2, 3, 4, 5, 6, 7, 8, 9, 10, 11, 12, 13, 14, 15, 16, 17] dt (am_cp (am_cp (u2 dt 1 0 (dt 18 0)) 19 2 0 0 192) 20 3 0 0 8) := Fr_cp hF17 (by decide)
  have w33 : (am_cp (am_cp (u2 dt 1 0 (dt 18 0)) 19 2 0 0 192) 20 3 0 0 8) 1 0 = (am_cp (u2 dt 1 0 (dt 18 0)) 19 2 0 0 192) 1 0 := rfl
  have w34 : (am_cp (am_cp (u2 dt 1 0 (dt 18 0)) 19 2 0 0 192) 20 3 0 0 8) 7 3 = (am_cp (u2 dt 1 0 (dt 18 0)) 19 2 0 0 192) 7 3 := rfl
  have w35 : (am_cp (am_cp (u2 dt 1 0 (dt 18 0)) 19 2 0 0 192) 20 3 0 0 8) 10 3 = (am_cp (u2 dt 1 0 (dt 18 0)) 19 2 0 0 192) 10 3 := rfl
  have w36 : (am_cp (am_cp (u2 dt 1 0 (dt 18 0)) 19 2 0 0 192) 20 3 0 0 8) 12 3 = (am_cp (u2 dt 1 0 (dt 18 0)) 19 2 0 0 192) 12 3 := rfl
  have w37 : (am_cp (am_cp (u2 dt 1 0 (dt 18 0)) 19 2 0 0 192) 20 3 0 0 8) 14 3 = (am_cp (u2 dt 1 0 (dt 18 0)) 19 2 0 0 192) 14 3 := rfl
  have w38 : (am_cp (am_cp (u2 dt 1 0 (dt 18 0)) 19 2 0 0 192) 20 3 0 0 8) 16 3 = (am_cp (u2 dt 1 0 (dt 18 0)) 19 2 0 0 192) 16 3 := rfl
  have w39 : (am_cp (am_cp (u2 dt 1 0 (dt 18 0)) 19 2 0 0 192) 20 3 0 0 8) 18 0 = (am_cp (u2 dt 1 0 (dt 18 0)) 19 2 0 0 192) 18 0 := rfl
  have w40 : (am_cp (am_cp (u2 dt 1 0 (dt 18 0)) 19 2 0 0 192) 20 3 0 0 8) 24 3 = (am_cp (u2 dt 1 0 (dt 18 0)) 19 2 0 0 192) 24 3 := rfl
  have w41 : (am_cp (am_cp (u2 dt 1 0 (dt 18 0)) 19 2 0 0 192) 20 3 0 0 8) 27 3 = (am_cp (u2 dt 1 0 (dt 18 0)) 19 2 0 0 192) 27 3 := rfl
  have w42 : (am_cp (am_cp (u2 dt 1 0 (dt 18 0)) 19 2 0 0 192) 20 3 0 0 8) 29 3 = (am_cp (u2 dt 1 0 (dt 18 0)) 19 2 0 0 192) 29 3 := rfl
  have w43 : (am_cp (am_cp (u2 dt 1 0 (dt 18 0)) 19 2 0 0 192) 20 3 0 0 8) 31 3 = (am_cp (u2 dt 1 0 (dt 18 0)) 19 2 0 0 192) 31 3 := rfl
  have w44 : (am_cp (am_cp (u2 dt 1 0 (dt 18 0)) 19 2 0 0 192) 20 3 0 0 8) 33 3 = (am_cp (u2 dt 1 0 (dt 18 0)) 19 2 0 0 192) 33 3 := rfl
  have T45 : ∀ j : Nat, j < 192 → (am_cp (am_cp (u2 dt 1 0 (dt 18 0)) 19 2 0 0 192) 20 3 0 0 8) 2 j = dt 19 j := fun j hj => (cp_ne (by decide)).trans (T30 j hj)
  have T46 : ∀ j : Nat, j < 8 → (am_cp (am_cp (u2 dt 1 0 (dt 18 0)) 19 2 0 0 192) 20 3 0 0 8) 3 j = dt 20 j := fun j hj => (cp_atv hj).trans (hF17 20 (by decide) j)
  refine go_cpy (L' := [some (.inr (.inr (some 1))), some (.inr (.inr (some 18)))]) (st' := []) (w' := (SH, (am_cp (am_cp (u2 dt 1 0 (dt 18 0)) 19 2 0 0 192) 20 3 0 0 8))) rfl rfl (s_cpy (n0 := 8) (n1 := 8) rfl rfl ⟨⟨by omega, by omega, by omega⟩, by omega, by omega, by decide⟩) ?_
  refine go_to (k := 9) (pc' := 59) (L' := [some (.inr (.inr (some 1))), some (.inr (.inr (some 18)))]) (st' := [.inl 256, .inl 0, .inr (.inr (some 4)), .inl 0, .inr (.inr (some 21))]) (w' := (SH, (am_cp (am_cp (u2 dt 1 0 (dt 18 0)) 19 2 0 0 192) 20 3 0 0 8))) (fun _ => rfl) ?_
  have hI47 : InvC (am_cp (am_cp (am_cp (u2 dt 1 0 (dt 18 0)) 19 2 0 0 192) 20 3 0 0 8) 21 4 0 0 256) := InvC_cp hI31 (fun _ _ => rfl) (fun _ _ => rfl) (fun _ => rfl)
  have hF48 : Fr [1, 2, 3, 4, 5, 6, 7, 8, 9, 10, 11, 12, 13, 14, 15, 16, 17] dt (am_cp (am_cp (am_cp (u2 dt 1 0 (dt 18 0)) 19 2 0 0 192) 20 3 0 0 8) 21 4 0 0 256) := Fr_cp hF32 (by decide)
  have w49 : (am_cp (am_cp (am_cp (u2 dt 1 0 (dt 18 0)) 19 2 0 0 192) 20 3 0 0 8) 21 4 0 0 256) 1 0 = (am_cp (am_cp (u2 dt 1 0 (dt 18 0)) 19 2 0 0 192) 20 3 0 0 8) 1 0 := rfl
  have w50 : (am_cp (am_cp (am_cp (u2 dt 1 0 (dt 18 0)) 19 2 0 0 192) 20 3 0 0 8) 21 4 0 0 256) 7 3 = (am_cp (am_cp (u2 dt 1 0 (dt 18 0)) 19 2 0 0 192) 20 3 0 0 8) 7 3 := rfl
  have w51 : (am_cp (am_cp (am_cp (u2 dt 1 0 (dt 18 0)) 19 2 0 0 192) 20 3 0 0 8) 21 4 0 0 256) 10 3 = (am_cp (am_cp (u2 dt 1 0 (dt 18 0)) 19 2 0 0 192) 20 3 0 0 8) 10 3 := rfl
  have w52 : (am_cp (am_cp (am_cp (u2 dt 1 0 (dt 18 0)) 19 2 0 0 192) 20 3 0 0 8) 21 4 0 0 256) 12 3 = (am_cp (am_cp (u2 dt 1 0 (dt 18 0)) 19 2 0 0 192) 20 3 0 0 8) 12 3 := rfl
  have w53 : (am_cp (am_cp (am_cp (u2 dt 1 0 (dt 18 0)) 19 2 0 0 192) 20 3 0 0 8) 21 4 0 0 256) 14 3 = (am_cp (am_cp (u2 dt 1 0 (dt 18 0)) 19 2 0 0 192) 20 3 0 0 8) 14 3 := rfl
  have w54 : (am_cp (am_cp (am_cp (u2 dt 1 0 (dt 18 0)) 19 2 0 0 192) 20 3 0 0 8) 21 4 0 0 256) 16 3 = (am_cp (am_cp (u2 dt 1 0 (dt 18 0)) 19 2 0 0 192) 20 3 0 0 8) 16 3 := rfl
  have w55 : (am_cp (am_cp (am_cp (u2 dt 1 0 (dt 18 0)) 19 2 0 0 192) 20 3 0 0 8) 21 4 0 0 256) 18 0 = (am_cp (am_cp (u2 dt 1 0 (dt 18 0)) 19 2 0 0 192) 20 3 0 0 8) 18 0 := rfl
  have w56 : (am_cp (am_cp (am_cp (u2 dt 1 0 (dt 18 0)) 19 2 0 0 192) 20 3 0 0 8) 21 4 0 0 256) 24 3 = (am_cp (am_cp (u2 dt 1 0 (dt 18 0)) 19 2 0 0 192) 20 3 0 0 8) 24 3 := rfl
  have w57 : (am_cp (am_cp (am_cp (u2 dt 1 0 (dt 18 0)) 19 2 0 0 192) 20 3 0 0 8) 21 4 0 0 256) 27 3 = (am_cp (am_cp (u2 dt 1 0 (dt 18 0)) 19 2 0 0 192) 20 3 0 0 8) 27 3 := rfl
  have w58 : (am_cp (am_cp (am_cp (u2 dt 1 0 (dt 18 0)) 19 2 0 0 192) 20 3 0 0 8) 21 4 0 0 256) 29 3 = (am_cp (am_cp (u2 dt 1 0 (dt 18 0)) 19 2 0 0 192) 20 3 0 0 8) 29 3 := rfl
  have w59 : (am_cp (am_cp (am_cp (u2 dt 1 0 (dt 18 0)) 19 2 0 0 192) 20 3 0 0 8) 21 4 0 0 256) 31 3 = (am_cp (am_cp (u2 dt 1 0 (dt 18 0)) 19 2 0 0 192) 20 3 0 0 8) 31 3 := rfl
  have w60 : (am_cp (am_cp (am_cp (u2 dt 1 0 (dt 18 0)) 19 2 0 0 192) 20 3 0 0 8) 21 4 0 0 256) 33 3 = (am_cp (am_cp (u2 dt 1 0 (dt 18 0)) 19 2 0 0 192) 20 3 0 0 8) 33 3 := rfl
  have T61 : ∀ j : Nat, j < 192 → (am_cp (am_cp (am_cp (u2 dt 1 0 (dt 18 0)) 19 2 0 0 192) 20 3 0 0 8) 21 4 0 0 256) 2 j = dt 19 j := fun j hj => (cp_ne (by decide)).trans (T45 j hj)
  have T62 : ∀ j : Nat, j < 8 → (am_cp (am_cp (am_cp (u2 dt 1 0 (dt 18 0)) 19 2 0 0 192) 20 3 0 0 8) 21 4 0 0 256) 3 j = dt 20 j := fun j hj => (cp_ne (by decide)).trans (T46 j hj)
  refine go_cpy (L' := [some (.inr (.inr (some 1))), some (.inr (.inr (some 18)))]) (st' := []) (w' := (SH, (am_cp (am_cp (am_cp (u2 dt 1 0 (dt 18 0)) 19 2 0 0 192) 20 3 0 0 8) 21 4 0 0 256))) rfl rfl (s_cpy (n0 := 256) (n1 := 256) rfl rfl ⟨⟨by omega, by omega, by omega⟩, by omega, by omega, by decide⟩) ?_
  refine go_to (k := 9) (pc' := 77) (L' := [some (.inr (.inr (some 1))), some (.inr (.inr (some 18)))]) (st' := [.inl 4, .inl 0, .inr (.inr (some 5)), .inl 0, .inr (.inr (some 22))]) (w' := (SH, (am_cp (am_cp (am_cp (u2 dt 1 0 (dt 18 0)) 19 2 0 0 192) 20 3 0 0 8) 21 4 0 0 256))) (fun _ => rfl) ?_
  have hI63 : InvC (am_cp (am_cp (am_cp (am_cp (u2 dt 1 0 (dt 18 0)) 19 2 0 0 192) 20 3 0 0 8) 21 4 0 0 256) 22 5 0 0 4) := InvC_cp hI47 (fun _ _ => rfl) (fun _ _ => rfl) (fun _ => rfl)
  have hF64 : Fr [1, 2, 3, 4, 5, 6, 7, 8, 9, 10, 11, 12, 13, 14, 15, 16, 17] dt (am_cp (am_cp (am_cp (am_cp (u2 dt 1 0 (dt 18 0)) 19 2 0 0 192) 20 3 0 0 8) 21 4 0 0 256) 22 5 0 0 4) := Fr_cp hF48 (by decide)
  have w65 : (am_cp (am_cp (am_cp (am_cp (u2 dt 1 0 (dt 18 0)) 19 2 0 0 192) 20 3 0 0 8) 21 4 0 0 256) 22 5 0 0 4) 1 0 = (am_cp (am_cp (am_cp (u2 dt 1 0 (dt 18 0)) 19 2 0 0 192) 20 3 0 0 8) 21 4 0 0 256) 1 0 := rfl
  have w66 : (am_cp (am_cp (am_cp (am_cp (u2 dt 1 0 (dt 18 0)) 19 2 0 0 192) 20 3 0 0 8) 21 4 0 0 256) 22 5 0 0 4) 7 3 = (am_cp (am_cp (am_cp (u2 dt 1 0 (dt 18 0)) 19 2 0 0 192) 20 3 0 0 8) 21 4 0 0 256) 7 3 := rfl
  have w67 : (am_cp (am_cp (am_cp (am_cp (u2 dt 1 0 (dt 18 0)) 19 2 0 0 192) 20 3 0 0 8) 21 4 0 0 256) 22 5 0 0 4) 10 3 = (am_cp (am_cp (am_cp (u2 dt 1 0 (dt 18 0)) 19 2 0 0 192) 20 3 0 0 8) 21 4 0 0 256) 10 3 := rfl
  have w68 : (am_cp (am_cp (am_cp (am_cp (u2 dt 1 0 (dt 18 0)) 19 2 0 0 192) 20 3 0 0 8) 21 4 0 0 256) 22 5 0 0 4) 12 3 = (am_cp (am_cp (am_cp (u2 dt 1 0 (dt 18 0)) 19 2 0 0 192) 20 3 0 0 8) 21 4 0 0 256) 12 3 := rfl
  have w69 : (am_cp (am_cp (am_cp (am_cp (u2 dt 1 0 (dt 18 0)) 19 2 0 0 192) 20 3 0 0 8) 21 4 0 0 256) 22 5 0 0 4) 14 3 = (am_cp (am_cp (am_cp (u2 dt 1 0 (dt 18 0)) 19 2 0 0 192) 20 3 0 0 8) 21 4 0 0 256) 14 3 := rfl
  have w70 : (am_cp (am_cp (am_cp (am_cp (u2 dt 1 0 (dt 18 0)) 19 2 0 0 192) 20 3 0 0 8) 21 4 0 0 256) 22 5 0 0 4) 16 3 = (am_cp (am_cp (am_cp (u2 dt 1 0 (dt 18 0)) 19 2 0 0 192) 20 3 0 0 8) 21 4 0 0 256) 16 3 := rfl
  have w71 : (am_cp (am_cp (am_cp (am_cp (u2 dt 1 0 (dt 18 0)) 19 2 0 0 192) 20 3 0 0 8) 21 4 0 0 256) 22 5 0 0 4) 18 0 = (am_cp (am_cp (am_cp (u2 dt 1 0 (dt 18 0)) 19 2 0 0 192) 20 3 0 0 8) 21 4 0 0 256) 18 0 := rfl
  have w72 : (am_cp (am_cp (am_cp (am_cp (u2 dt 1 0 (dt 18 0)) 19 2 0 0 192) 20 3 0 0 8) 21 4 0 0 256) 22 5 0 0 4) 24 3 = (am_cp (am_cp (am_cp (u2 dt 1 0 (dt 18 0)) 19 2 0 0 192) 20 3 0 0 8) 21 4 0 0 256) 24 3 := rfl
  have w73 : (am_cp (am_cp (am_cp (am_cp (u2 dt 1 0 (dt 18 0)) 19 2 0 0 192) 20 3 0 0 8) 21 4 0 0 256) 22 5 0 0 4) 27 3 = (am_cp (am_cp (am_cp (u2 dt 1 0 (dt 18 0)) 19 2 0 0 192) 20 3 0 0 8) 21 4 0 0 256) 27 3 := rfl
  have w74 : (am_cp (am_cp (am_cp (am_cp (u2 dt 1 0 (dt 18 0)) 19 2 0 0 192) 20 3 0 0 8) 21 4 0 0 256) 22 5 0 0 4) 29 3 = (am_cp (am_cp (am_cp (u2 dt 1 0 (dt 18 0)) 19 2 0 0 192) 20 3 0 0 8) 21 4 0 0 256) 29 3 := rfl
  have w75 : (am_cp (am_cp (am_cp (am_cp (u2 dt 1 0 (dt 18 0)) 19 2 0 0 192) 20 3 0 0 8) 21 4 0 0 256) 22 5 0 0 4) 31 3 = (am_cp (am_cp (am_cp (u2 dt 1 0 (dt 18 0)) 19 2 0 0 192) 20 3 0 0 8) 21 4 0 0 256) 31 3 := rfl
  have w76 : (am_cp (am_cp (am_cp (am_cp (u2 dt 1 0 (dt 18 0)) 19 2 0 0 192) 20 3 0 0 8) 21 4 0 0 256) 22 5 0 0 4) 33 3 = (am_cp (am_cp (am_cp (u2 dt 1 0 (dt 18 0)) 19 2 0 0 192) 20 3 0 0 8) 21 4 0 0 256) 33 3 := rfl
  have T77 : ∀ j : Nat, j < 192 → (am_cp (am_cp (am_cp (am_cp (u2 dt 1 0 (dt 18 0)) 19 2 0 0 192) 20 3 0 0 8) 21 4 0 0 256) 22 5 0 0 4) 2 j = dt 19 j := fun j hj => (cp_ne (by decide)).trans (T61 j hj)
  have T78 : ∀ j : Nat, j < 8 → (am_cp (am_cp (am_cp (am_cp (u2 dt 1 0 (dt 18 0)) 19 2 0 0 192) 20 3 0 0 8) 21 4 0 0 256) 22 5 0 0 4) 3 j = dt 20 j := fun j hj => (cp_ne (by decide)).trans (T62 j hj)
  refine go_cpy (L' := [some (.inr (.inr (some 1))), some (.inr (.inr (some 18)))]) (st' := []) (w' := (SH, (am_cp (am_cp (am_cp (am_cp (u2 dt 1 0 (dt 18 0)) 19 2 0 0 192) 20 3 0 0 8) 21 4 0 0 256) 22 5 0 0 4))) rfl rfl (s_cpy (n0 := 4) (n1 := 4) rfl rfl ⟨⟨by omega, by omega, by omega⟩, by omega, by omega, by decide⟩) ?_
  refine go_to (k := 9) (pc' := 95) (L' := [some (.inr (.inr (some 1))), some (.inr (.inr (some 18)))]) (st' := [.inl 2000, .inl 0, .inr (.inr (some 6)), .inl 0, .inr (.inr (some 23))]) (w' := (SH, (am_cp (am_cp (am_cp (am_cp (u2 dt 1 0 (dt 18 0)) 19 2 0 0 192) 20 3 0 0 8) 21 4 0 0 256) 22 5 0 0 4))) (fun _ => rfl) ?_
  have hI79 : InvC (am_cp (am_cp (am_cp (am_cp (am_cp (u2 dt 1 0 (dt 18 0)) 19 2 0 0 192) 20 3 0 0 8) 21 4 0 0 256) 22 5 0 0 4) 23 6 0 0 2000) := InvC_cp hI63 (fun _ _ => rfl) (fun _ _ => rfl) (fun _ => rfl)
  have hF80 : Fr [1, 2, 3, 4, 5, 6, 7, 8, 9, 10, 11, 12, 13, 14, 15, 16, 17] dt (am_cp (am_cp (am_cp (am_cp (am_cp (u2 dt 1 0 (dt 18 0)) 19 2 0 0 192) 20 3 0 0 8) 21 4 0 0 256) 22 5 0 0 4) 23 6 0 0 2000) := Fr_cp hF64 (by decide)
  have w81 : (am_cp (am_cp (am_cp (am_cp (am_cp (u2 dt 1 0 (dt 18 0)) 19 2 0 0 192) 20 3 0 0 8) 21 4 0 0 256) 22 5 0 0 4) 23 6 0 0 2000) 1 0 = (am_cp (am_cp (am_cp (am_cp (u2 dt 1 0 (dt 18 0)) 19 2 0 0 192) 20 3 0 0 8) 21 4 0 0 256) 22 5 0 0 4) 1 0 := rfl
  have w82 : (am_cp (am_cp (am_cp (am_cp (am_cp (u2 dt 1 0 (dt 18 0)) 19 2 0 0 192) 20 3 0 0 8) 21 4 0 0 256) 22 5 0 0 4) 23 6 0 0 2000) 7 3 = (am_cp (am_cp (am_cp (am_cp (u2 dt 1 0 (dt 18 0)) 19 2 0 0 192) 20 3 0 0 8) 21 4 0 0 256) 22 5 0 0 4) 7 3 := rfl
  have w83 : (am_cp (am_cp (am_cp (am_cp (am_cp (u2 dt 1 0 (dt 18 0)) 19 2 0 0 192) 20 3 0 0 8) 21 4 0 0 256) 22 5 0 0 4) 23 6 0 0 2000) 10 3 = (am_cp (am_cp (am_cp (am_cp (u2 dt 1 0 (dt 18 0)) 19 2 0 0 192) 20 3 0 0 8) 21 4 0 0 256) 22 5 0 0 4) 10 3 := rfl
  have w84 : (am_cp (am_cp (am_cp (am_cp (am_cp (u2 dt 1 0 (dt 18 0)) 19 2 0 0 192) 20 3 0 0 8) 21 4 0 0 256) 22 5 0 0 4) 23 6 0 0 2000) 12 3 = (am_cp (am_cp (am_cp (am_cp (u2 dt 1 0 (dt 18 0)) 19 2 0 0 192) 20 3 0 0 8) 21 4 0 0 256) 22 5 0 0 4) 12 3 := rfl
  have w85 : (am_cp (am_cp (am_cp (am_cp (am_cp (u2 dt 1 0 (dt 18 0)) 19 2 0 0 192) 20 3 0 0 8) 21 4 0 0 256) 22 5 0 0 4) 23 6 0 0 2000) 14 3 = (am_cp (am_cp (am_cp (am_cp (u2 dt 1 0 (dt 18 0)) 19 2 0 0 192) 20 3 0 0 8) 21 4 0 0 256) 22 5 0 0 4) 14 3 := rfl
  have w86 : (am_cp (am_cp (am_cp (am_cp (am_cp (u2 dt 1 0 (dt 18 0)) 19 2 0 0 192) 20 3 0 0 8) 21 4 0 0 256) 22 5 0 0 4) 23 6 0 0 2000) 16 3 = (am_cp (am_cp (am_cp (am_cp (u2 dt 1 0 (dt 18 0)) 19 2 0 0 192) 20 3 0 0 8) 21 4 0 0 256) 22 5 0 0 4) 16 3 := rfl
  have w87 : (am_cp (am_cp (am_cp (am_cp (am_cp (u2 dt 1 0 (dt 18 0)) 19 2 0 0 192) 20 3 0 0 8) 21 4 0 0 256) 22 5 0 0 4) 23 6 0 0 2000) 18 0 = (am_cp (am_cp (am_cp (am_cp (u2 dt 1 0 (dt 18 0)) 19 2 0 0 192) 20 3 0 0 8) 21 4 0 0 256) 22 5 0 0 4) 18 0 := rfl
  have w88 : (am_cp (am_cp (am_cp (am_cp (am_cp (u2 dt 1 0 (dt 18 0)) 19 2 0 0 192) 20 3 0 0 8) 21 4 0 0 256) 22 5 0 0 4) 23 6 0 0 2000) 24 3 = (am_cp (am_cp (am_cp (am_cp (u2 dt 1 0 (dt 18 0)) 19 2 0 0 192) 20 3 0 0 8) 21 4 0 0 256) 22 5 0 0 4) 24 3 := rfl
  have w89 : (am_cp (am_cp (am_cp (am_cp (am_cp (u2 dt 1 0 (dt 18 0)) 19 2 0 0 192) 20 3 0 0 8) 21 4 0 0 256) 22 5 0 0 4) 23 6 0 0 2000) 27 3 = (am_cp (am_cp (am_cp (am_cp (u2 dt 1 0 (dt 18 0)) 19 2 0 0 192) 20 3 0 0 8) 21 4 0 0 256) 22 5 0 0 4) 27 3 := rfl
  have w90 : (am_cp (am_cp (am_cp (am_cp (am_cp (u2 dt 1 0 (dt 18 0)) 19 2 0 0 192) 20 3 0 0 8) 21 4 0 0 256) 22 5 0 0 4) 23 6 0 0 2000) 29 3 = (am_cp (am_cp (am_cp (am_cp (u2 dt 1 0 (dt 18 0)) 19 2 0 0 192) 20 3 0 0 8) 21 4 0 0 256) 22 5 0 0 4) 29 3 := rfl
  have w91 : (am_cp (am_cp (am_cp (am_cp (am_cp (u2 dt 1 0 (dt 18 0)) 19 2 0 0 192) 20 3 0 0 8) 21 4 0 0 256) 22 5 0 0 4) 23 6 0 0 2000) 31 3 = (am_cp (am_cp (am_cp (am_cp (u2 dt 1 0 (dt 18 0)) 19 2 0 0 192) 20 3 0 0 8) 21 4 0 0 256) 22 5 0 0 4) 31 3 := rfl
  have w92 : (am_cp (am_cp (am_cp (am_cp (am_cp (u2 dt 1 0 (dt 18 0)) 19 2 0 0 192) 20 3 0 0 8) 21 4 0 0 256) 22 5 0 0 4) 23 6 0 0 2000) 33 3 = (am_cp (am_cp (am_cp (am_cp (u2 dt 1 0 (dt 18 0)) 19 2 0 0 192) 20 3 0 0 8) 21 4 0 0 256) 22 5 0 0 4) 33 3 := rfl
  have T93 : ∀ j : Nat, j < 192 → (am_cp (am_cp (am_cp (am_cp (am_cp (u2 dt 1 0 (dt 18 0)) 19 2 0 0 192) 20 3 0 0 8) 21 4 0 0 256) 22 5 0 0 4) 23 6 0 0 2000) 2 j = dt 19 j := fun j hj => (cp_ne (by decide)).trans (T77 j hj)
  have T94 : ∀ j : Nat, j < 8 → (am_cp (am_cp (am_cp (am_cp (am_cp (u2 dt 1 0 (dt 18 0)) 19 2 0 0 192) 20 3 0 0 8) 21 4 0 0 256) 22 5 0 0 4) 23 6 0 0 2000) 3 j = dt 20 j := fun j hj => (cp_ne (by decide)).trans (T78 j hj)
  refine go_cpy (L' := [some (.inr (.inr (some 1))), some (.inr (.inr (some 18)))]) (st' := []) (w' := (SH, (am_cp (am_cp (am_cp (am_cp (am_cp (u2 dt 1 0 (dt 18 0)) 19 2 0 0 192) 20 3 0 0 8) 21 4 0 0 256) 22 5 0 0 4) 23 6 0 0 2000))) rfl rfl (s_cpy (n0 := 2000) (n1 := 2000) rfl rfl ⟨⟨by omega, by omega, by omega⟩, by omega, by omega, by decide⟩) ?_
  refine go_to (k := 9) (pc' := 113) (L' := [some (.inr (.inr (some 1))), some (.inr (.inr (some 18)))]) (st' := [.inl 132, .inl 0, .inr (.inr (some 9)), .inl 0, .inr (.inr (some 26))]) (w' := (SH, (am_cp (am_cp (am_cp (am_cp (am_cp (u2 dt 1 0 (dt 18 0)) 19 2 0 0 192) 20 3 0 0 8) 21 4 0 0 256) 22 5 0 0 4) 23 6 0 0 2000))) (fun _ => rfl) ?_
  have hI95 : InvC (am_cp (am_cp (am_cp (am_cp (am_cp (am_cp (u2 dt 1 0 (dt 18 0)) 19 2 0 0 192) 20 3 0 0 8) 21 4 0 0 256) 22 5 0 0 4) 23 6 0 0 2000) 26 9 0 0 132) := InvC_cp hI79 (fun _ _ => rfl) (fun _ _ => rfl) (fun _ => rfl)
  have hF96 : Fr [1, 2, 3, 4, 5, 6, 7, 8, 9, 10, 11, 12, 13, 14, 15, 16, 17] dt (am_cp (am_cp (am_cp (am_cp (am_cp (am_cp (u2 dt 1 0 (dt 18 0)) 19 2 0 0 192) 20 3 0 0 8) 21 4 0 0 256) 22 5 0 0 4) 23 6 0 0 2000) 26 9 0 0 132) := Fr_cp hF80 (by decide)
  have w97 : (am_cp (am_cp (am_cp (am_cp (am_cp (am_cp (u2 dt 1 0 (dt 18 0)) 19 2 0 0 192) 20 3 0 0 8) 21 4 0 0 256) 22 5 0 0 4) 23 6 0 0 2000) 26 9 0 0 132) 1 0 = (am_cp (am_cp (am_cp (am_cp (am_cp (u2 dt 1 0 (dt 18 0)) 19 2 0 0 192) 20 3 0 0 8) 21 4 0 0 256) 22 5 0 0 4) 23 6 0 0 2000) 1 0 := rfl
  have w98 : (am_cp (am_cp (am_cp (am_cp (am_cp (am_cp (u2 dt 1 0 (dt 18 0)) 19 2 0 0 192) 20 3 0 0 8) 21 4 0 0 256) 22 5 0 0 4) 23 6 0 0 2000) 26 9 0 0 132) 7 3 = (am_cp (am_cp (am_cp (am_cp (am_cp (u2 dt 1 0 (dt 18 0)) 19 2 0 0 192) 20 3 0 0 8) 21 4 0 0 256) 22 5 0 0 4) 23 6 0 0 2000) 7 3 := rfl
  have w99 : (am_cp (am_cp (am_cp (am_cp (am_cp (am_cp (u2 dt 1 0 (dt 18 0)) 19 2 0 0 192) 20 3 0 0 8) 21 4 0 0 256) 22 5 0 0 4) 23 6 0 0 2000) 26 9 0 0 132) 10 3 = (am_cp (am_cp (am_cp (am_cp (am_cp (u2 dt 1 0 (dt 18 0)) 19 2 0 0 192) 20 3 0 0 8) 21 4 0 0 256) 22 5 0 0 4) 23 6 0 0 2000) 10 3 := rfl
  have w100 : (am_cp (am_cp (am_cp (am_cp (am_cp (am_cp (u2 dt 1 0 (dt 18 0)) 19 2 0 0 192) 20 3 0 0 8) 21 4 0 0 256) 22 5 0 0 4) 23 6 0 0 2000) 26 9 0 0 132) 12 3 = (am_cp (am_cp (am_cp (am_cp (am_cp (u2 dt 1 0 (dt 18 0)) 19 2 0 0 192) 20 3 0 0 8) 21 4 0 0 256) 22 5 0 0 4) 23 6 0 0 2000) 12 3 := rfl
  have w101 : (am_cp (am_cp (am_cp (am_cp (am_cp (am_cp (u2 dt 1 0 (dt 18 0)) 19 2 0 0 192) 20 3 0 0 8) 21 4 0 0 256) 22 5 0 0 4) 23 6 0 0 2000) 26 9 0 0 132) 14 3 = (am_cp (am_cp (am_cp (am_cp (am_cp (u2 dt 1 0 (dt 18 0)) 19 2 0 0 192) 20 3 0 0 8) 21 4 0 0 256) 22 5 0 0 4) 23 6 0 0 2000) 14 3 := rfl
  have w102 : (am_cp (am_cp (am_cp (am_cp (am_cp (am_cp (u2 dt 1 0 (dt 18 0)) 19 2 0 0 192) 20 3 0 0 8) 21 4 0 0 256) 22 5 0 0 4) 23 6 0 0 2000) 26 9 0 0 132) 16 3 = (am_cp (am_cp (am_cp (am_cp (am_cp (u2 dt 1 0 (dt 18 0)) 19 2 0 0 192) 20 3 0 0 8) 21 4 0 0 256) 22 5 0 0 4) 23 6 0 0 2000) 16 3 := rfl
  have w103 : (am_cp (am_cp (am_cp (am_cp (am_cp (am_cp (u2 dt 1 0 (dt 18 0)) 19 2 0 0 192) 20 3 0 0 8) 21 4 0 0 256) 22 5 0 0 4) 23 6 0 0 2000) 26 9 0 0 132) 18 0 = (am_cp (am_cp (am_cp (am_cp (am_cp (u2 dt 1 0 (dt 18 0)) 19 2 0 0 192) 20 3 0 0 8) 21 4 0 0 256) 22 5 0 0 4) 23 6 0 0 2000) 18 0 := rfl
  have w104 : (am_cp (am_cp (am_cp (am_cp (am_cp (am_cp (u2 dt 1 0 (dt 18 0)) 19 2 0 0 192) 20 3 0 0 8) 21 4 0 0 256) 22 5 0 0 4) 23 6 0 0 2000) 26 9 0 0 132) 24 3 = (am_cp (am_cp (am_cp (am_cp (am_cp (u2 dt 1 0 (dt 18 0)) 19 2 0 0 192) 20 3 0 0 8) 21 4 0 0 256) 22 5 0 0 4) 23 6 0 0 2000) 24 3 := rfl
  have w105 : (am_cp (am_cp (am_cp (am_cp (am_cp (am_cp (u2 dt 1 0 (dt 18 0)) 19 2 0 0 192) 20 3 0 0 8) 21 4 0 0 256) 22 5 0 0 4) 23 6 0 0 2000) 26 9 0 0 132) 27 3 = (am_cp (am_cp (am_cp (am_cp (am_cp (u2 dt 1 0 (dt 18 0)) 19 2 0 0 192) 20 3 0 0 8) 21 4 0 0 256) 22 5 0 0 4) 23 6 0 0 2000) 27 3 := rfl
  have w106 : (am_cp (am_cp (am_cp (am_cp (am_cp (am_cp (u2 dt 1 0 (dt 18 0)) 19 2 0 0 192) 20 3 0 0 8) 21 4 0 0 256) 22 5 0 0 4) 23 6 0 0 2000) 26 9 0 0 132) 29 3 = (am_cp (am_cp (am_cp (am_cp (am_cp (u2 dt 1 0 (dt 18 0)) 19 2 0 0 192) 20 3 0 0 8) 21 4 0 0 256) 22 5 0 0 4) 23 6 0 0 2000) 29 3 := rfl
  have w107 : (am_cp (am_cp (am_cp (am_cp (am_cp (am_cp (u2 dt 1 0 (dt 18 0)) 19 2 0 0 192) 20 3 0 0 8) 21 4 0 0 256) 22 5 0 0 4) 23 6 0 0 2000) 26 9 0 0 132) 31 3 = (am_cp (am_cp (am_cp (am_cp (am_cp (u2 dt 1 0 (dt 18 0)) 19 2 0 0 192) 20 3 0 0 8) 21 4 0 0 256) 22 5 0 0 4) 23 6 0 0 2000) 31 3 := rfl
  have w108 : (am_cp (am_cp (am_cp (am_cp (am_cp (am_cp (u2 dt 1 0 (dt 18 0)) 19 2 0 0 192) 20 3 0 0 8) 21 4 0 0 256) 22 5 0 0 4) 23 6 0 0 2000) 26 9 0 0 132) 33 3 = (am_cp (am_cp (am_cp (am_cp (am_cp (u2 dt 1 0 (dt 18 0)) 19 2 0 0 192) 20 3 0 0 8) 21 4 0 0 256) 22 5 0 0 4) 23 6 0 0 2000) 33 3 := rfl
  have T109 : ∀ j : Nat, j < 192 → (am_cp (am_cp (am_cp (am_cp (am_cp (am_cp (u2 dt 1 0 (dt 18 0)) 19 2 0 0 192) 20 3 0 0 8) 21 4 0 0 256) 22 5 0 0 4) 23 6 0 0 2000) 26 9 0 0 132) 2 j = dt 19 j := fun j hj => (cp_ne (by decide)).trans (T93 j hj)
  have T110 : ∀ j : Nat, j < 8 → (am_cp (am_cp (am_cp (am_cp (am_cp (am_cp (u2 dt 1 0 (dt 18 0)) 19 2 0 0 192) 20 3 0 0 8) 21 4 0 0 256) 22 5 0 0 4) 23 6 0 0 2000) 26 9 0 0 132) 3 j = dt 20 j := fun j hj => (cp_ne (by decide)).trans (T94 j hj)
  have T111 : ∀ j : Nat, j < 132 → (am_cp (am_cp (am_cp (am_cp (am_cp (am_cp (u2 dt 1 0 (dt 18 0)) 19 2 0 0 192) 20 3 0 0 8) 21 4 0 0 256) 22 5 0 0 4) 23 6 0 0 2000) 26 9 0 0 132) 9 j = dt 26 j := fun j hj => (cp_atv hj).trans (hF80 26 (by decide) j)
  refine go_cpy (L' := [some (.inr (.inr (some 1))), some (.inr (.inr (some 18)))]) (st' := []) (w' := (SH, (am_cp (am_cp (am_cp (am_cp (am_cp (am_cp (u2 dt 1 0 (dt 18 0)) 19 2 0 0 192) 20 3 0 0 8) 21 4 0 0 256) 22 5 0 0 4) 23 6 0 0 2000) 26 9 0 0 132))) rfl rfl (s_cpy (n0 := 132) (n1 := 132) rfl rfl ⟨⟨by omega, by omega, by omega⟩, by omega, by omega, by decide⟩) ?_
  refine go_to (k := 4) (pc' := 124) (L' := [some (.inr (.inr (some 1))), some (.inr (.inr (some 18)))]) (st' := [.inr (.inr (some 24)), .inr (.inr (some 7))]) (w' := (SH, (am_cp (am_cp (am_cp (am_cp (am_cp (am_cp (u2 dt 1 0 (dt 18 0)) 19 2 0 0 192) 20 3 0 0 8) 21 4 0 0 256) 22 5 0 0 4) 23 6 0 0 2000) 26 9 0 0 132))) (fun _ => rfl) ?_
  refine go_call (Q' := _) rfl rfl rfl rfl rfl (sp_X2_copyFrom_7f L xs sio (d + 0) (am_cp (am_cp (am_cp (am_cp (am_cp (am_cp (u2 dt 1 0 (dt 18 0)) 19 2 0 0 192) 20 3 0 0 8) 21 4 0 0 256) 22 5 0 0 4) 23 6 0 0 2000) 26 9 0 0 132) hI95   ) ?_
  rintro _ _ ⟨dt113, rfl, hI114, hF115, h112⟩
  refine ⟨rfl, ?_⟩
  have hF116 : Fr [1, 2, 3, 4, 5, 6, 7, 8, 9, 10, 11, 12, 13, 14, 15, 16, 17] dt dt113 := Fr_tr hF96 hF115 (by decide)
  have w117 : dt113 1 0 = (am_cp (am_cp (am_cp (am_cp (am_cp (am_cp (u2 dt 1 0 (dt 18 0)) 19 2 0 0 192) 20 3 0 0 8) 21 4 0 0 256) 22 5 0 0 4) 23 6 0 0 2000) 26 9 0 0 132) 1 0 := hF115 1 (by decide) 0
  have w118 : dt113 10 3 = (am_cp (am_cp (am_cp (am_cp (am_cp (am_cp (u2 dt 1 0 (dt 18 0)) 19 2 0 0 192) 20 3 0 0 8) 21 4 0 0 256) 22 5 0 0 4) 23 6 0 0 2000) 26 9 0 0 132) 10 3 := hF115 10 (by decide) 3
  have w119 : dt113 12 3 = (am_cp (am_cp (am_cp (am_cp (am_cp (am_cp (u2 dt 1 0 (dt 18 0)) 19 2 0 0 192) 20 3 0 0 8) 21 4 0 0 256) 22 5 0 0 4) 23 6 0 0 2000) 26 9 0 0 132) 12 3 := hF115 12 (by decide) 3
  have w120 : dt113 14 3 = (am_cp (am_cp (am_cp (am_cp (am_cp (am_cp (u2 dt 1 0 (dt 18 0)) 19 2 0 0 192) 20 3 0 0 8) 21 4 0 0 256) 22 5 0 0 4) 23 6 0 0 2000) 26 9 0 0 132) 14 3 := hF115 14 (by decide) 3
  have w121 : dt113 16 3 = (am_cp (am_cp (am_cp (am_cp (am_cp (am_cp (u2 dt 1 0 (dt 18 0)) 19 2 0 0 192) 20 3 0 0 8) 21 4 0 0 256) 22 5 0 0 4) 23 6 0 0 2000) 26 9 0 0 132) 16 3 := hF115 16 (by decide) 3
  have w122 : dt113 18 0 = (am_cp (am_cp (am_cp (am_cp (am_cp (am_cp (u2 dt 1 0 (dt 18 0)) 19 2 0 0 192) 20 3 0 0 8) 21 4 0 0 256) 22 5 0 0 4) 23 6 0 0 2000) 26 9 0 0 132) 18 0 := hF115 18 (by decide) 0
  have w123 : dt113 24 3 = (am_cp (am_cp (am_cp (am_cp (am_cp (am_cp (u2 dt 1 0 (dt 18 0)) 19 2 0 0 192) 20 3 0 0 8) 21 4 0 0 256) 22 5 0 0 4) 23 6 0 0 2000) 26 9 0 0 132) 24 3 := hF115 24 (by decide) 3
  have w124 : dt113 27 3 = (am_cp (am_cp (am_cp (am_cp (am_cp (am_cp (u2 dt 1 0 (dt 18 0)) 19 2 0 0 192) 20 3 0 0 8) 21 4 0 0 256) 22 5 0 0 4) 23 6 0 0 2000) 26 9 0 0 132) 27 3 := hF115 27 (by decide) 3
  have w125 : dt113 29 3 = (am_cp (am_cp (am_cp (am_cp (am_cp (am_cp (u2 dt 1 0 (dt 18 0)) 19 2 0 0 192) 20 3 0 0 8) 21 4 0 0 256) 22 5 0 0 4) 23 6 0 0 2000) 26 9 0 0 132) 29 3 := hF115 29 (by decide) 3
  have w126 : dt113 31 3 = (am_cp (am_cp (am_cp (am_cp (am_cp (am_cp (u2 dt 1 0 (dt 18 0)) 19 2 0 0 192) 20 3 0 0 8) 21 4 0 0 256) 22 5 0 0 4) 23 6 0 0 2000) 26 9 0 0 132) 31 3 := hF115 31 (by decide) 3
  have w127 : dt113 33 3 = (am_cp (am_cp (am_cp (am_cp (am_cp (am_cp (u2 dt 1 0 (dt 18 0)) 19 2 0 0 192) 20 3 0 0 8) 21 4 0 0 256) 22 5 0 0 4) 23 6 0 0 2000) 26 9 0 0 132) 33 3 := hF115 33 (by decide) 3
  rcases h112 with ⟨rfl, h112⟩
  obtain ⟨h112_0, h112_1⟩ := h112
  have T128 : ∀ j : Nat, j < 192 → dt113 2 j = dt 19 j := fun j hj => (hF115 2 (by decide) j).trans (T109 j hj)
  have T129 : ∀ j : Nat, j < 8 → dt113 3 j = dt 20 j := fun j hj => (hF115 3 (by decide) j).trans (T110 j hj)
  have T130 : ∀ j : Nat, j < 60 → dt113 8 j = dt 25 j := fun j hj => (h112_1 j hj).trans (hF116 25 (by decide) j)
  have T131 : ∀ j : Nat, j < 132 → dt113 9 j = dt 26 j := fun j hj => (hF115 9 (by decide) j).trans (T111 j hj)
  refine go_to (k := 4) (pc' := 135) (L' := [some (.inr (.inr (some 1))), some (.inr (.inr (some 18)))]) (st' := [.inr (.inr (some 27)), .inr (.inr (some 10))]) (w' := (SH, dt113)) (fun _ => rfl) ?_
  refine go_call (Q' := _) rfl rfl rfl rfl rfl (sp_X2_copyFrom_10 L xs sio (d + 0) dt113 hI114   ) ?_
  rintro _ _ ⟨dt133, rfl, hI134, hF135, h132⟩
  refine ⟨rfl, ?_⟩
  have hF136 : Fr [1, 2, 3, 4, 5, 6, 7, 8, 9, 10, 11, 12, 13, 14, 15, 16, 17] dt dt133 := Fr_tr hF116 hF135 (by decide)
  have w137 : dt133 1 0 = dt113 1 0 := hF135 1 (by decide) 0
  have w138 : dt133 7 3 = dt113 7 3 := hF135 7 (by decide) 3
  have w139 : dt133 12 3 = dt113 12 3 := hF135 12 (by decide) 3
  have w140 : dt133 14 3 = dt113 14 3 := hF135 14 (by decide) 3
  have w141 : dt133 16 3 = dt113 16 3 := hF135 16 (by decide) 3
  have w142 : dt133 18 0 = dt113 18 0 := hF135 18 (by decide) 0
  have w143 : dt133 24 3 = dt113 24 3 := hF135 24 (by decide) 3
  have w144 : dt133 27 3 = dt113 27 3 := hF135 27 (by decide) 3
  have w145 : dt133 29 3 = dt113 29 3 := hF135 29 (by decide) 3
  have w146 : dt133 31 3 = dt113 31 3 := hF135 31 (by decide) 3
  have w147 : dt133 33 3 = dt113 33 3 := hF135 33 (by decide) 3
  rcases h132 with ⟨rfl, h132⟩
  have T148 : ∀ j : Nat, j < 192 → dt133 2 j = dt 19 j := fun j hj => (hF135 2 (by decide) j).trans (T128 j hj)
  have T149 : ∀ j : Nat, j < 8 → dt133 3 j = dt 20 j := fun j hj => (hF135 3 (by decide) j).trans (T129 j hj)
  have T150 : ∀ j : Nat, j < 60 → dt133 8 j = dt 25 j := fun j hj => (hF135 8 (by decide) j).trans (T130 j hj)
  have T151 : ∀ j : Nat, j < 132 → dt133 9 j = dt 26 j := fun j hj => (hF135 9 (by decide) j).trans (T131 j hj)
  refine go_to (k := 4) (pc' := 146) (L' := [some (.inr (.inr (some 1))), some (.inr (.inr (some 18)))]) (st' := [.inr (.inr (some 29)), .inr (.inr (some 12))]) (w' := (SH, dt133)) (fun _ => rfl) ?_
  refine go_call (Q' := _) rfl rfl rfl rfl rfl (sp_X2_copyFrom_12 L xs sio (d + 0) dt133 hI134   ) ?_
  rintro _ _ ⟨dt153, rfl, hI154, hF155, h152⟩
  refine ⟨rfl, ?_⟩
  have hF156 : Fr [1, 2, 3, 4, 5, 6, 7, 8, 9, 10, 11, 12, 13, 14, 15, 16, 17] dt dt153 := Fr_tr hF136 hF155 (by decide)
  have w157 : dt153 1 0 = dt133 1 0 := hF155 1 (by decide) 0
  have w158 : dt153 7 3 = dt133 7 3 := hF155 7 (by decide) 3
  have w159 : dt153 10 3 = dt133 10 3 := hF155 10 (by decide) 3
  have w160 : dt153 14 3 = dt133 14 3 := hF155 14 (by decide) 3
  have w161 : dt153 16 3 = dt133 16 3 := hF155 16 (by decide) 3
  have w162 : dt153 18 0 = dt133 18 0 := hF155 18 (by decide) 0
  have w163 : dt153 24 3 = dt133 24 3 := hF155 24 (by decide) 3
  have w164 : dt153 27 3 = dt133 27 3 := hF155 27 (by decide) 3
  have w165 : dt153 29 3 = dt133 29 3 := hF155 29 (by decide) 3
  have w166 : dt153 31 3 = dt133 31 3 := hF155 31 (by decide) 3
  have w167 : dt153 33 3 = dt133 33 3 := hF155 33 (by decide) 3
  rcases h152 with ⟨rfl, h152⟩
  have T168 : ∀ j : Nat, j < 192 → dt153 2 j = dt 19 j := fun j hj => (hF155 2 (by decide) j).trans (T148 j hj)
  have T169 : ∀ j : Nat, j < 8 → dt153 3 j = dt 20 j := fun j hj => (hF155 3 (by decide) j).trans (T149 j hj)
  have T170 : ∀ j : Nat, j < 60 → dt153 8 j = dt 25 j := fun j hj => (hF155 8 (by decide) j).trans (T150 j hj)
  have T171 : ∀ j : Nat, j < 132 → dt153 9 j = dt 26 j := fun j hj => (hF155 9 (by decide) j).trans (T151 j hj)
  refine go_to (k := 4) (pc' := 157) (L' := [some (.inr (.inr (some 1))), some (.inr (.inr (some 18)))]) (st' := [.inr (.inr (some 31)), .inr (.inr (some 14))]) (w' := (SH, dt153)) (fun _ => rfl) ?_
  refine go_call (Q' := _) rfl rfl rfl rfl rfl (sp_X2_copyFrom_14 L xs sio (d + 0) dt153 hI154   ) ?_
  rintro _ _ ⟨dt173, rfl, hI174, hF175, h172⟩
  refine ⟨rfl, ?_⟩
  have hF176 : Fr [1, 2, 3, 4, 5, 6, 7, 8, 9, 10, 11, 12, 13, 14, 15, 16, 17] dt dt173 := Fr_tr hF156 hF175 (by decide)
  have w177 : dt173 1 0 = dt153 1 0 := hF175 1 (by decide) 0
  have w178 : dt173 7 3 = dt153 7 3 := hF175 7 (by decide) 3
  have w179 : dt173 10 3 = dt153 10 3 := hF175 10 (by decide) 3
  have w180 : dt173 12 3 = dt153 12 3 := hF175 12 (by decide) 3
  have w181 : dt173 16 3 = dt153 16 3 := hF175 16 (by decide) 3
  have w182 : dt173 18 0 = dt153 18 0 := hF175 18 (by decide) 0
  have w183 : dt173 24 3 = dt153 24 3 := hF175 24 (by decide) 3
  have w184 : dt173 27 3 = dt153 27 3 := hF175 27 (by decide) 3
  have w185 : dt173 29 3 = dt153 29 3 := hF175 29 (by decide) 3
  have w186 : dt173 31 3 = dt153 31 3 := hF175 31 (by decide) 3
  have w187 : dt173 33 3 = dt153 33 3 := hF175 33 (by decide) 3
  rcases h172 with ⟨rfl, h172⟩
  have T188 : ∀ j : Nat, j < 192 → dt173 2 j = dt 19 j := fun j hj => (hF175 2 (by decide) j).trans (T168 j hj)
  have T189 : ∀ j : Nat, j < 8 → dt173 3 j = dt 20 j := fun j hj => (hF175 3 (by decide) j).trans (T169 j hj)
  have T190 : ∀ j : Nat, j < 60 → dt173 8 j = dt 25 j := fun j hj => (hF175 8 (by decide) j).trans (T170 j hj)
  have T191 : ∀ j : Nat, j < 132 → dt173 9 j = dt 26 j := fun j hj => (hF175 9 (by decide) j).trans (T171 j hj)
  refine go_to (k := 4) (pc' := 168) (L' := [some (.inr (.inr (some 1))), some (.inr (.inr (some 18)))]) (st' := [.inr (.inr (some 33)), .inr (.inr (some 16))]) (w' := (SH, dt173)) (fun _ => rfl) ?_
  refine go_call (Q' := _) rfl rfl rfl rfl rfl (sp_X2_copyFrom_16 L xs sio (d + 0) dt173 hI174   ) ?_
  rintro _ _ ⟨dt193, rfl, hI194, hF195, h192⟩
  refine ⟨rfl, ?_⟩
  have hF196 : Fr [1, 2, 3, 4, 5, 6, 7, 8, 9, 10, 11, 12, 13, 14, 15, 16, 17] dt dt193 := Fr_tr hF176 hF195 (by decide)
  have w197 : dt193 1 0 = dt173 1 0 := hF195 1 (by decide) 0
  have w198 : dt193 7 3 = dt173 7 3 := hF195 7 (by decide) 3
  have w199 : dt193 10 3 = dt173 10 3 := hF195 10 (by decide) 3
  have w200 : dt193 12 3 = dt173 12 3 := hF195 12 (by decide) 3
  have w201 : dt193 14 3 = dt173 14 3 := hF195 14 (by decide) 3
  have w202 : dt193 18 0 = dt173 18 0 := hF195 18 (by decide) 0
  have w203 : dt193 24 3 = dt173 24 3 := hF195 24 (by decide) 3
  have w204 : dt193 27 3 = dt173 27 3 := hF195 27 (by decide) 3
  have w205 : dt193 29 3 = dt173 29 3 := hF195 29 (by decide) 3
  have w206 : dt193 31 3 = dt173 31 3 := hF195 31 (by decide) 3
  have w207 : dt193 33 3 = dt173 33 3 := hF195 33 (by decide) 3
  rcases h192 with ⟨rfl, h192⟩
  have T208 : ∀ j : Nat, j < 192 → dt193 2 j = dt 19 j := fun j hj => (hF195 2 (by decide) j).trans (T188 j hj)
  have T209 : ∀ j : Nat, j < 8 → dt193 3 j = dt 20 j := fun j hj => (hF195 3 (by decide) j).trans (T189 j hj)
  have T210 : ∀ j : Nat, j < 60 → dt193 8 j = dt 25 j := fun j hj => (hF195 8 (by decide) j).trans (T190 j hj)
  have T211 : ∀ j : Nat, j < 132 → dt193 9 j = dt 26 j := fun j hj => (hF195 9 (by decide) j).trans (T191 j hj)
  refine go_ret (k := 1) (r := none) (w1 := (SH, dt193)) (fun _ => rfl) ?_
  exact ⟨dt193, rfl, hI194, hF196, ⟨rfl, ⟨by first | trivial | omega, by first | trivial | omega, by first | trivial | omega, by first | trivial | omega, by first | trivial | omega, by first | trivial | omega, by exact T208, by exact T209, by exact T210, by exact T211⟩⟩⟩
theorem chk_sp_X0_copyFrom_18q (L : Nat) (xs : Nat → Int32) (sio : Option Nat) (d : Nat) (dt : Nat → Nat → Int) (hI : InvC dt)    : GO (am_XX L xs sio) (d + 2) 4 0 [some (.inr (.inr (some 18))), some (.inr (.inr (some 1)))] [] (SH, dt) (fun r w2 => ∃ dt2 : Nat → Nat → Int, w2 = (SH, dt2) ∧ InvC dt2 ∧ Fr [18, 19, 20, 21, 22, 23, 24, 25, 26, 27, 28, 29, 30, 31, 32, 33, 34] dt dt2 ∧ ((r = none ∧ (dt2 18 0 = dt 1 0) ∧ (dt2 24 3 = dt 7 3) ∧ (dt2 27 3 = dt 10 3) ∧ (dt2 29 3 = dt 12 3) ∧ (dt2 31 3 = dt 14 3) ∧ (dt2 33 3 = dt 16 3) ∧ (∀ j : Nat, j < 192 → dt2 19 j = dt 2 j) ∧ (∀ j : Nat, j < 8 → dt2 20 j = dt 3 j) ∧ (∀ j : Nat, j < 60 → dt2 25 j = dt 8 j) ∧ (∀ j : Nat, j < 132 → dt2 26 j = dt 9 j)))) := by
  have hF : Fr [18, 19, 20, 21, 22, 23, 24, 25, 26, 27, 28, 29, 30, 31, 32, 33, 34] dt dt := Fr_refl
  have r1 : (-2147483648) ≤ dt 1 0 ∧ dt 1 0 ≤ 2147483647 := InvC_get hI 1 0 rfl rfl
  refine go_to (k := 3) (pc' := 5) (L' := [some (.inr (.inr (some 18))), some (.inr (.inr (some 1)))]) (st' := [.inl (dt 1 0), .inr (.inr (some 18))]) (w' := (SH, dt)) (fun _ => rfl) ?_
  have hI2 : InvC (u2 dt 18 0 (dt 1 0)) := InvC_u2 hI (lo := -2147483648) (hi := 2147483647) rfl rfl rfl (by omega) (by omega)
  have hF3 : Fr [18, 19, 20, 21, 22, 23, 24, 25, 26, 27, 28, 29, 30, 31, 32, 33, 34] dt (u2 dt 18 0 (dt 1 0)) := Fr_u2 hF (by decide)
  have w4 : (u2 dt 18 0 (dt 1 0)) 18 0 = dt 1 0 := rfl
  have w5 : (u2 dt 18 0 (dt 1 0)) 24 3 = dt 24 3 := rfl
  have w6 : (u2 dt 18 0 (dt 1 0)) 27 3 = dt 27 3 := rfl
  have w7 : (u2 dt 18 0 (dt 1 0)) 29 3 = dt 29 3 := rfl
  have w8 : (u2 dt 18 0 (dt 1 0)) 31 3 = dt 31 3 := rfl
  have w9 : (u2 dt 18 0 (dt 1 0)) 33 3 = dt 33 3 := rfl
  have w10 : (u2 dt 18 0 (dt 1 0)) 1 0 = dt 1 0 := rfl
  have w11 : (u2 dt 18 0 (dt 1 0)) 7 3 = dt 7 3 := rfl
  have w12 : (u2 dt 18 0 (dt 1 0)) 10 3 = dt 10 3 := rfl
  have w13 : (u2 dt 18 0 (dt 1 0)) 12 3 = dt 12 3 := rfl
  have w14 : (u2 dt 18 0 (dt 1 0)) 14 3 = dt 14 3 := rfl
  have w15 : (u2 dt 18 0 (dt 1 0)) 16 3 = dt 16 3 := rfl
  refine go_smp (L' := [some (.inr (.inr (some 18))), some (.inr (.inr (some 1)))]) (st' := []) (w' := (SH, (u2 dt 18 0 (dt 1 0)))) rfl rfl (s_pf rfl rfl rfl rfl ⟨by omega, by omega⟩) ?_
  refine go_to (k := 9) (pc' := 23) (L' := [some (.inr (.inr (some 18))), some (.inr (.inr (some 1)))]) (st' := [.inl 192, .inl 0, .inr (.inr (some 19)), .inl 0, .inr (.inr (some 2))]) (w' := (SH, (u2 dt 18 0 (dt 1 0)))) (fun _ => rfl) ?_
  have hI16 : InvC (am_cp (u2 dt 18 0 (dt 1 0)) 2 19 0 0 192) := InvC_cp hI2 (fun _ _ => rfl) (fun _ _ => rfl) (fun _ => rfl)
  have hF17 : Fr [18, 19, 20, 21, 22, 23, 24, 25, 26, 27, 28, 29, 30, 31, 32, 33, 34] dt (am_cp (u2 dt 18 0 (dt 1 0)) 2 19 0 0 192) := Fr_cp hF3 (by decide)
  have w18 : (am_cp (u2 dt 18 0 (dt 1 0)) 2 19 0 0 192) 18 0 = (u2 dt 18 0 (dt 1 0)) 18 0 := rfl
  have w19 : (am_cp (u2 dt 18 0 (dt 1 0)) 2 19 0 0 192) 24 3 = (u2 dt 18 0 (dt 1 0)) 24 3 := rfl
  have w20 : (am_cp (u2 dt 18 0 (dt 1 0)) 2 19 0 0 192) 27 3 = (u2 dt 18 0 (dt 1 0)) 27 3 := rfl
  have w21 : (am_cp (u2 dt 18 0 (dt 1 0)) 2 19 0 0 192) 29 3 = (u2 dt 18 0 (dt 1 0)) 29 3 := rfl
  have w22 : (am_cp (u2 dt 18 0 (dt 1 0)) 2 19 0 0 192) 31 3 = (u2 dt 18 0 (dt 1 0)) 31 3 := rfl
  have w23 : (am_cp (u2 dt 18 0 (dt 1 0)) 2 19 0 0 192) 33 3 = (u2 dt 18 0 (dt 1 0)) 33 3 := rfl
  have w24 : (am_cp (u2 dt 18 0 (dt 1 0)) 2 19 0 0 192) 1 0 = (u2 dt 18 0 (dt 1 0)) 1 0 := rfl
  have w25 : (am_cp (u2 dt 18 0 (dt 1 0)) 2 19 0 0 192) 7 3 = (u2 dt 18 0 (dt 1 0)) 7 3 := rfl
  have w26 : (am_cp (u2 dt 18 0 (dt 1 0)) 2 19 0 0 192) 10 3 = (u2 dt 18 0 (dt 1 0)) 10 3 := rfl
  have w27 : (am_cp (u2 dt 18 0 (dt 1 0)) 2 19 0 0 192) 12 3 = (u2 dt 18 0 (dt 1 0)) 12 3 := rfl
  have w28 : (am_cp (u2 dt 18 0 (dt 1 0)) 2 19 0 0 192) 14 3 = (u2 dt 18 0 (dt 1 0)) 14 3 := rfl
  have w29 : (am_cp (u2 dt 18 0 (dt 1 0)) 2 19 0 0 192) 16 3 = (u2 dt 18 0 (dt 1 0)) 16 3 := rfl
  have T30 : ∀ j : Nat, j < 192 → (am_cp (u2 dt 18 0 (dt 1 0)) 2 19 0 0 192) 19 j = dt 2 j := fun j hj => (cp_atv hj).trans (hF3 2 (by decide) j)
  refine go_cpy (L' := [some (.inr (.inr (some 18))), some (.inr (.inr (some 1)))]) (st' := []) (w' := (SH, (am_cp (u2 dt 18 0 (dt 1 0)) 2 19 0 0 192))) rfl rfl (s_cpy (n0 := 192) (n1 := 192) rfl rfl ⟨⟨by omega, by omega, by omega⟩, by omega, by omega, by decide⟩) ?_
  refine go_to (k := 9) (pc' := 41) (L' := [some (.inr (.inr (some 18))), some (.inr (.inr (some 1)))]) (st' := [.inl 8, .inl 0, .inr (.inr (some 20)), .inl 0, .inr (.inr (some 3))]) (w' := (SH, (am_cp (u2 dt 18 0 (dt 1 0)) 2 19 0 0 192))) (fun _ => rfl) ?_
  have hI31 : InvC (am_cp (am_cp (u2 dt 18 0 (dt 1 0)) 2 19 0 0 192) 3 20 0 0 8) := InvC_cp hI16 (fun _ _ => rfl) (fun _ _ => rfl) (fun _ => rfl)
  have hF32 : Fr [18, 19, 20, 21, 22, 23, 24, 25, 26, 27, 28, 29, 30, 31, 32, 33, 34] dt (am_cp (am_cp (u2 dt 18 0 (dt 1 0)) 2 19 0 0 192) 3 20 0 0 8) := Fr_cp hF17 (by decide)
  have w33 : (am_cp (am_cp (u2 dt 18 0 (dt 1 0)) 2 19 0 0 192) 3 20 0 0 8) 18 0 = (am_cp (u2 dt 18 0 (dt 1 0)) 2 19 0 0 192) 18 0 := rfl
  have w34 : (am_cp (am_cp (u2 dt 18 0 (dt 1 0)) 2 19 0 0 192) 3 20 0 0 8) 24 3 = (am_cp (u2 dt 18 0 (dt 1 0)) 2 19 0 0 192) 24 3 := rfl
  have w35 : (am_cp (am_cp (u2 dt 18 0 (dt 1 0)) 2 19 0 0 192) 3 20 0 0 8) 27 3 = (am_cp (u2 dt 18 0 (dt 1 0)) 2 19 0 0 192) 27 3 := rfl
  have w36 : (am_cp (am_cp (u2 dt 18 0 (dt 1 0)) 2 19 0 0 192) 3 20 0 0 8) 29 3 = (am_cp (u2 dt 18 0 (dt 1 0)) 2 19 0 0 192) 29 3 := rfl
  have w37 : (am_cp (am_cp (u2 dt 18 0 (dt 1 0)) 2 19 0 0 192) 3 20 0 0 8) 31 3 = (am_cp (u2 dt 18 0 (dt 1 0)) 2 19 0 0 192) 31 3 := rfl
  have w38 : (am_cp (am_cp (u2 dt 18 0 (dt 1 0)) 2 19 0 0 192) 3 20 0 0 8) 33 3 = (am_cp (u2 dt 18 0 (dt 1 0)) 2 19 0 0 192) 33 3 := rfl
  have w39 : (am_cp (am_cp (u2 dt 18 0 (dt 1 0)) 2 19 0 0 192) 3 20 0 0 8) 1 0 = (am_cp (u2 dt 18 0 (dt 1 0)) 2 19 0 0 192) 1 0 := rfl
  have w40 : (am_cp (am_cp (u2 dt 18 0 (dt 1 0)) 2 19 0 0 192) 3 20 0 0 8) 7 3 = (am_cp (u2 dt 18 0 (dt 1 0)) 2 19 0 0 192) 7 3 := rfl
  have w41 : (am_cp (am_cp (u2 dt 18 0 (dt 1 0)) 2 19 0 0 192) 3 20 0 0 8) 10 3 = (am_cp (u2 dt 18 0 (dt 1 0)) 2 19 0 0 192) 10 3 := rfl
  have w42 : (am_cp (am_cp (u2 dt 18 0 (dt 1 0)) 2 19 0 0 192) 3 20 0 0 8) 12 3 = (am_cp (u2 dt 18 0 (dt 1 0)) 2 19 0 0 192) 12 3 := rfl
  have w43 : (am_cp (am_cp (u2 dt 18 0 (dt 1 0)) 2 19 0 0 192) 3 20 0 0 8) 14 3 = (am_cp (u2 dt 18 0 (dt 1 0)) 2 19 0 0 192) 14 3 := rfl
  have w44 : (am_cp (am_cp (u2 dt 18 0 (dt 1 0)) 2 19 0 0 192) 3 20 0 0 8) 16 3 = (am_cp (u2 dt 18 0 (dt 1 0)) 2 19 0 0 192) 16 3 := rfl
  have T45 : ∀ j : Nat, j < 192 → (am_cp (am_cp (u2 dt 18 0 (dt 1 0)) 2 19 0 0 192) 3 20 0 0 8) 19 j = dt 2 j := fun j hj => (cp_ne (by decide)).trans (T30 j hj)
  have T46 : ∀ j : Nat, j < 8 → (am_cp (am_cp (u2 dt 18 0 (dt 1 0)) 2 19 0 0 192) 3 20 0 0 8) 20 j = dt 3 j := fun j hj => (cp_atv hj).trans (hF17 3 (by decide) j)
  refine go_cpy (L' := [some (.inr (.inr (some 18))), some (.inr (.inr (some 1)))]) (st' := []) (w' := (SH, (am_cp (am_cp (u2 dt 18 0 (dt 1 0)) 2 19 0 0 192) 3 20 0 0 8))) rfl rfl (s_cpy (n0 := 8) (n1 := 8) rfl rfl ⟨⟨by omega, by omega, by omega⟩, by omega, by omega, by decide⟩) ?_
  refine go_to (k := 9) (pc' := 59) (L' := [some (.inr (.inr (some 18))), some (.inr (.inr (some 1)))]) (st' := [.inl 256, .inl 0, .inr (.inr (some 21)), .inl 0, .inr (.inr (some 4))]) (w' := (SH, (am_cp (am_cp (u2 dt 18 0 (dt 1 0)) 2 19 0 0 192) 3 20 0 0 8))) (fun _ => rfl) ?_
  have hI47 : InvC (am_cp (am_cp (am_cp (u2 dt 18 0 (dt 1 0)) 2 19 0 0 192) 3 20 0 0 8) 4 21 0 0 256) := InvC_cp hI31 (fun _ _ => rfl) (fun _ _ => rfl) (fun _ => rfl)
  have hF48 : Fr [18, 19, 20, 21, 22, 23, 24, 25, 26, 27, 28, 29, 30, 31, 32, 33, 34] dt (am_cp (am_cp (am_cp (u2 dt 18 0 (dt 1 0)) 2 19 0 0 192) 3 20 0 0 8) 4 21 0 0 256) := Fr_cp hF32 (by decide)
  have w49 : (am_cp (am_cp (am_cp (u2 dt 18 0 (dt 1 0)) 2 19 0 0 192) 3 20 0 0 8) 4 21 0 0 256) 18 0 = (am_cp (am_cp (u2 dt 18 0 (dt 1 0)) 2 19 0 0 192) 3 20 0 0 8) 18 0 := rfl
  have w50 : (am_cp (am_cp (am_cp (u2 dt 18 0 (dt 1 0)) 2 19 0 0 192) 3 20 0 0 8) 4 21 0 0 256) 24 3 = (am_cp (am_cp (u2 dt 18 0 (dt 1 0)) 2 19 0 0 192) 3 20 0 0 8) 24 3 := rfl
  have w51 : (am_cp (am_cp (am_cp (u2 dt 18 0 (dt 1 0)) 2 19 0 0 192) 3 20 0 0 8) 4 21 0 0 256) 27 3 = (am_cp (am_cp (u2 dt 18 0 (dt 1 0)) 2 19 0 0 192) 3 20 0 0 8) 27 3 := rfl
  have w52 : (am_cp (am_cp (am_cp (u2 dt 18 0 (dt 1 0)) 2 19 0 0 192) 3 20 0 0 8) 4 21 0 0 256) 29 3 = (am_cp (am_cp (u2 dt 18 0 (dt 1 0)) 2 19 0 0 192) 3 20 0 0 8) 29 3 := rfl
  have w53 : (am_cp (am_cp (am_cp (u2 dt 18 0 (dt 1 0)) 2 19 0 0 192) 3 20 0 0 8) 4 21 0 0 256) 31 3 = (am_cp (am_cp (u2 dt 18 0 (dt 1 0)) 2 19 0 0 192) 3 20 0 0 8) 31 3 := rfl
  have w54 : (am_cp (am_cp (am_cp (u2 dt 18 0 (dt 1 0)) 2 19 0 0 192) 3 20 0 0 8) 4 21 0 0 256) 33 3 = (am_cp (am_cp (u2 dt 18 0 (dt 1 0)) 2 19 0 0 192) 3 20 0 0 8) 33 3 := rfl
  have w55 : (am_cp (am_cp (am_cp (u2 dt 18 0 (dt 1 0)) 2 19 0 0 192) 3 20 0 0 8) 4 21 0 0 256) 1 0 = (am_cp (am_cp (u2 dt 18 0 (dt 1 0)) 2 19 0 0 192) 3 20 0 0 8) 1 0 := rfl
  have w56 : (am_cp (am_cp (am_cp (u2 dt 18 0 (dt 1 0)) 2 19 0 0 192) 3 20 0 0 8) 4 21 0 0 256) 7 3 = (am_cp (am_cp (u2 dt 18 0 (dt 1 0)) 2 19 0 0 192) 3 20 0 0 8) 7 3 := rfl
  have w57 : (am_cp (am_cp (am_cp (u2 dt 18 0 (dt 1 0)) 2 19 0 0 192) 3 20 0 0 8) 4 21 0 0 256) 10 3 = (am_cp (am_cp (u2 dt 18 0 (dt 1 0)) 2 19 0 0 192) 3 20 0 0 8) 10 3 := rfl
  have w58 : (am_cp (am_cp (am_cp (u2 dt 18 0 (dt 1 0)) 2 19 0 0 192) 3 20 0 0 8) 4 21 0 0 256) 12 3 = (am_cp (am_cp (u2 dt 18 0 (dt 1 0)) 2 19 0 0 192) 3 20 0 0 8) 12 3 := rfl
  have w59 : (am_cp (am_cp (am_cp (u2 dt 18 0 (dt 1 0)) 2 19 0 0 192) 3 20 0 0 8) 4 21 0 0 256) 14 3 = (am_cp (am_cp (u2 dt 18 0 (dt 1 0)) 2 19 0 0 192) 3 20 0 0 8) 14 3 := rfl
  have w60 : (am_cp (am_cp (am_cp (u2 dt 18 0 (dt 1 0)) 2 19 0 0 192) 3 20 0 0 8) 4 21 0 0 256) 16 3 = (am_cp (am_cp (u2 dt 18 0 (dt 1 0)) 2 19 0 0 192) 3 20 0 0 8) 16 3 := rfl
  have T61 : ∀ j : Nat, j < 192 → (am_cp (am_cp (am_cp (u2 dt 18 0 (dt 1 0)) 2 19 0 0 192) 3 20 0 0 8) 4 21 0 0 256) 19 j = dt 2 j := fun j hj => (cp_ne (by decide)).trans (T45 j hj)
  have T62 : ∀ j : Nat, j < 8 → (am_cp (am_cp (am_cp (u2 dt 18 0 (dt 1 0)) 2 19 0 0 192) 3 20 0 0 8) 4 21 0 0 256) 20 j = dt 3 j := fun j hj => (cp_ne (by decide)).trans (T46 j hj)
  refine go_cpy (L' := [some (.inr (.inr (some 18))), some (.inr (.inr (some 1)))]) (st' := []) (w' := (SH, (am_cp (am_cp (am_cp (u2 dt 18 0 (dt 1 0)) 2 19 0 0 192) 3 20 0 0 8) 4 21 0 0 256))) rfl rfl (s_cpy (n0 := 256) (n1 := 256) rfl rfl ⟨⟨by omega, by omega, by omega⟩, by omega, by omega, by decide⟩) ?_
  refine go_to (k := 9) (pc' := 77) (L' := [some (.inr (.inr (some 18))), some (.inr (.inr (some 1)))]) (st' := [.inl 4, .inl 0, .inr (.inr (some 22)), .inl 0, .inr (.inr (some 5))]) (w' := (SH, (am_cp (am_cp (am_cp (u2 dt 18 0 (dt 1 0)) 2 19 0 0 192) 3 20 0 0 8) 4 21 0 0 256))) (fun _ => rfl) ?_
  have hI63 : InvC (am_cp (am_cp (am_cp (am_cp (u2 dt 18 0 (dt 1 0)) 2 19 0 0 192) 3 20 0 0 8) 4 21 0 0 256) 5 22 0 0 4) := InvC_cp hI47 (fun _ _ => rfl) (fun _ _ => rfl) (fun _ => rfl)
  have hF64 : Fr [18, 19, 20, 21, 22, 23, 24, 25, 26, 27, 28, 29, 30, 31, 32, 33, 34] dt (am_cp (am_cp (am_cp (am_cp (u2 dt 18 0 (dt 1 0)) 2 19 0 0 192) 3 20 0 0 8) 4 21 0 0 256) 5 22 0 0 4) := Fr_cp hF48 (by decide)
  have w65 : (am_cp (am_cp (am_cp (am_cp (u2 dt 18 0 (dt 1 0)) 2 19 0 0 192) 3 20 0 0 8) 4 21 0 0 256) 5 22 0 0 4) 18 0 = (am_cp (am_cp (am_cp (u2 dt 18 0 (dt 1 0)) 2 19 0 0 192) 3 20 0 0 8) 4 21 0 0 256) 18 0 := rfl
  have w66 : (am_cp (am_cp (am_cp (am_cp (u2 dt 18 0 (dt 1 0)) 2 19 0 0 192) 3 20 0 0 8) 4 21 0 0 256) 5 22 0 0 4) 24 3 = (am_cp (am_cp (am_cp (u2 dt 18 0 (dt 1 0)) 2 19 0 0 192) 3 20 0 0 8) 4 21 0 0 256) 24 3 := rfl
  have w67 : (am_cp (am_cp (am_cp (am_cp (u2 dt 18 0 (dt 1 0)) 2 19 0 0 192) 3 20 0 0 8) 4 21 0 0 256) 5 22 0 0 4) 27 3 = (am_cp (am_cp (am_cp (u2 dt 18 0 (dt 1 0)) 2 19 0 0 192) 3 20 0 0 8) 4 21 0 0 256) 27 3 := rfl
  have w68 : (am_cp (am_cp (am_cp (am_cp (u2 dt 18 0 (dt 1 0)) 2 19 0 0 192) 3 20 0 0 8) 4 21 0 0 256) 5 22 0 0 4) 29 3 = (am_cp (am_cp (am_cp (u2 dt 18 0 (dt 1 0)) 2 19 0 0 192) 3 20 0 0 8) 4 21 0 0 256) 29 3 := rfl
  have w69 : (am_cp (am_cp (am_cp (am_cp (u2 dt 18 0 (dt 1 0)) 2 19 0 0 192) 3 20 0 0 8) 4 21 0 0 256) 5 22 0 0 4) 31 3 = (am_cp (am_cp (am_cp (u2 dt 18 0 (dt 1 0)) 2 19 0 0 192) 3 20 0 0 8) 4 21 0 0 256) 31 3 := rfl
  have w70 : (am_cp (am_cp (am_cp (am_cp (u2 dt 18 0 (dt 1 0)) 2 19 0 0 192) 3 20 0 0 8) 4 21 0 0 256) 5 22 0 0 4) 33 3 = (am_cp (am_cp (am_cp (u2 dt 18 0 (dt 1 0)) 2 19 0 0 192) 3 20 0 0 8) 4 21 0 0 256) 33 3 := rfl
  have w71 : (am_cp (am_cp (am_cp (am_cp (u2 dt 18 0 (dt 1 0)) 2 19 0 0 192) 3 20 0 0 8) 4 21 0 0 256) 5 22 0 0 4) 1 0 = (am_cp (am_cp (am_cp (u2 dt 18 0 (dt 1 0)) 2 19 0 0 192) 3 20 0 0 8) 4 21 0 0 256) 1 0 := rfl
  have w72 : (am_cp (am_cp (am_cp (am_cp (u2 dt 18 0 (dt 1 0)) 2 19 0 0 192) 3 20 0 0 8) 4 21 0 0 256) 5 22 0 0 4) 7 3 = (am_cp (am_cp (am_cp (u2 dt 18 0 (dt 1 0)) 2 19 0 0 192) 3 20 0 0 8) 4 21 0 0 256) 7 3 := rfl
  have w73 : (am_cp (am_cp (am_cp (am_cp (u2 dt 18 0 (dt 1 0)) 2 19 0 0 192) 3 20 0 0 8) 4 21 0 0 256) 5 22 0 0 4) 10 3 = (am_cp (am_cp (am_cp (u2 dt 18 0 (dt 1 0)) 2 19 0 0 192) 3 20 0 0 8) 4 21 0 0 256) 10 3 := rfl
  have w74 : (am_cp (am_cp (am_cp (am_cp (u2 dt 18 0 (dt 1 0)) 2 19 0 0 192) 3 20 0 0 8) 4 21 0 0 256) 5 22 0 0 4) 12 3 = (am_cp (am_cp (am_cp (u2 dt 18 0 (dt 1 0)) 2 19 0 0 192) 3 20 0 0 8) 4 21 0 0 256) 12 3 := rfl
  have w75 : (am_cp (am_cp (am_cp (am_cp (u2 dt 18 0 (dt 1 0)) 2 19 0 0 192) 3 20 0 0 8) 4 21 0 0 256) 5 22 0 0 4) 14 3 = (am_cp (am_cp (am_cp (u2 dt 18 0 (dt 1 0)) 2 19 0 0 192) 3 20 0 0 8) 4 21 0 0 256) 14 3 := rfl
  have w76 : (am_cp (am_cp (am_cp (am_cp (u2 dt 18 0 (dt 1 0)) 2 19 0 0 192) 3 20 0 0 8) 4 21 0 0 256) 5 22 0 0 4) 16 3 = (am_cp (am_cp (am_cp (u2 dt 18 0 (dt 1 0)) 2 19 0 0 192) 3 20 0 0 8) 4 21 0 0 256) 16 3 := rfl
  have T77 : ∀ j : Nat, j < 192 → (am_cp (am_cp (am_cp (am_cp (u2 dt 18 0 (dt 1 0)) 2 19 0 0 192) 3 20 0 0 8) 4 21 0 0 256) 5 22 0 0 4) 19 j = dt 2 j := fun j hj => (cp_ne (by decide)).trans (T61 j hj)
  have T78 : ∀ j : Nat, j < 8 → (am_cp (am_cp (am_cp (am_cp (u2 dt 18 0 (dt 1 0)) 2 19 0 0 192) 3 20 0 0 8) 4 21 0 0 256) 5 22 0 0 4) 20 j = dt 3 j := fun j hj => (cp_ne (by decide)).trans (T62 j hj)
  refine go_cpy (L' := [some (.inr (.inr (some 18))), some (.inr (.inr (some 1)))]) (st' := []) (w' := (SH, (am_cp (am_cp (am_cp (am_cp (u2 dt 18 0 (dt 1 0)) 2 19 0 0 192) 3 20 0 0 8) 4 21 0 0 256) 5 22 0 0 4))) rfl rfl (s_cpy (n0 := 4) (n1 := 4) rfl rfl ⟨⟨by omega, by omega, by omega⟩, by omega, by omega, by decide⟩) ?_
  refine go_to (k := 9) (pc' := 95) (L' := [some (.inr (.inr (some 18))), some (.inr (.inr (some 1)))]) (st' := [.inl 2000, .inl 0, .inr (.inr (some 23)), .inl 0, .inr (.inr (some 6))]) (w' := (SH, (am_cp (am_cp (am_cp (am_cp (u2 dt 18 0 (dt 1 0)) 2 19 0 0 192) 3 20 0 0 8) 4 21 0 0 256) 5 22 0 0 4))) (fun _ => rfl) ?_
  have hI79 : InvC (am_cp (am_cp (am_cp (am_cp (am_cp (u2 dt 18 0 (dt 1 0)) 2 19 0 0 192) 3 20 0 0 8) 4 21 0 0 256) 5 22 0 0 4) 6 23 0 0 2000) := InvC_cp hI63 (fun _ _ => rfl) (fun _ _ => rfl) (fun _ => rfl)
  have hF80 : Fr [18, 19, 20, 21, 22, 23, 24, 25, 26, 27, 28, 29, 30, 31, 32, 33, 34] dt (am_cp (am_cp (am_cp (am_cp (am_cp (u2 dt 18 0 (dt 1 0)) 2 19 0 0 192) 3 20 0 0 8) 4 21 0 0 256) 5 22 0 0 4) 6 23 0 0 2000) := Fr_cp hF64 (by decide)
  have w81 : (am_cp (am_cp (am_cp (am_cp (am_cp (u2 dt 18 0 (dt 1 0)) 2 19 0 0 192) 3 20 0 0 8) 4 21 0 0 256) 5 22 0 0 4) 6 23 0 0 2000) 18 0 = (am_cp (am_cp (am_cp (am_cp (u2 dt 18 0 (dt 1 0)) 2 19 0 0 192) 3 20 0 0 8) 4 21 0 0 256) 5 22 0 0 4) 18 0 := rfl
  have w82 : (am_cp (am_cp (am_cp (am_cp (am_cp (u2 dt 18 0 (dt 1 0)) 2 19 0 0 192) 3 20 0 0 8) 4 21 0 0 256) 5 22 0 0 4) 6 23 0 0 2000) 24 3 = (am_cp (am_cp (am_cp (am_cp (u2 dt 18 0 (dt 1 0)) 2 19 0 0 192) 3 20 0 0 8) 4 21 0 0 256) 5 22 0 0 4) 24 3 := rfl
  have w83 : (am_cp (am_cp (am_cp (am_cp (am_cp (u2 dt 18 0 (dt 1 0)) 2 19 0 0 192) 3 20 0 0 8) 4 21 0 0 256) 5 22 0 0 4) 6 23 0 0 2000) 27 3 = (am_cp (am_cp (am_cp (am_cp (u2 dt 18 0 (dt 1 0)) 2 19 0 0 192) 3 20 0 0 8) 4 21 0 0 256) 5 22 0 0 4) 27 3 := rfl
  have w84 : (am_cp (am_cp (am_cp (am_cp (am_cp (u2 dt 18 0 (dt 1 0)) 2 19 0 0 192) 3 20 0 0 8) 4 21 0 0 256) 5 22 0 0 4) 6 23 0 0 2000) 29 3 = (am_cp (am_cp (am_cp (am_cp (u2 dt 18 0 (dt 1 0)) 2 19 0 0 192) 3 20 0 0 8) 4 21 0 0 256) 5 22 0 0 4) 29 3 := rfl
  have w85 : (am_cp (am_cp (am_cp (am_cp (am_cp (u2 dt 18 0 (dt 1 0)) 2 19 0 0 192) 3 20 0 0 8) 4 21 0 0 256) 5 22 0 0 4) 6 23 0 0 2000) 31 3 = (am_cp (am_cp (am_cp (am_cp (u2 dt 18 0 (dt 1 0)) 2 19 0 0 192) 3 20 0 0 8) 4 21 0 0 256) 5 22 0 0 4) 31 3 := rfl
  have w86 : (am_cp (am_cp (am_cp (am_cp (am_cp (u2 dt 18 0 (dt 1 0)) 2 19 0 0 192) 3 20 0 0 8) 4 21 0 0 256) 5 22 0 0 4) 6 23 0 0 2000) 33 3 = (am_cp (am_cp (am_cp (am_cp (u2 dt 18 0 (dt 1 0)) 2 19 0 0 192) 3 20 0 0 8) 4 21 0 0 256) 5 22 0 0 4) 33 3 := rfl
  have w87 : (am_cp (am_cp (am_cp (am_cp (am_cp (u2 dt 18 0 (dt 1 0)) 2 19 0 0 192) 3 20 0 0 8) 4 21 0 0 256) 5 22 0 0 4) 6 23 0 0 2000) 1 0 = (am_cp (am_cp (am_cp (am_cp (u2 dt 18 0 (dt 1 0)) 2 19 0 0 192) 3 20 0 0 8) 4 21 0 0 256) 5 22 0 0 4) 1 0 := rfl
  have w88 : (am_cp (am_cp (am_cp (am_cp (am_cp (u2 dt 18 0 (dt 1 0)) 2 19 0 0 192) 3 20 0 0 8) 4 21 0 0 256) 5 22 0 0 4) 6 23 0 0 2000) 7 3 = (am_cp (am_cp (am_cp (am_cp (u2 dt 18 0 (dt 1 0)) 2 19 0 0 192) 3 20 0 0 8) 4 21 0 0 256) 5 22 0 0 4) 7 3 := rfl
  have w89 : (am_cp (am_cp (am_cp (am_cp (am_cp (u2 dt 18 0 (dt 1 0)) 2 19 0 0 192) 3 20 0 0 8) 4 21 0 0 256) 5 22 0 0 4) 6 23 0 0 2000) 10 3 = (am_cp (am_cp (am_cp (am_cp (u2 dt 18 0 (dt 1 0)) 2 19 0 0 192) 3 20 0 0 8) 4 21 0 0 256) 5 22 0 0 4) 10 3 := rfl
  have w90 : (am_cp (am_cp (am_cp (am_cp (am_cp (u2 dt 18 0 (dt 1 0)) 2 19 0 0 192) 3 20 0 0 8) 4 21 0 0 256) 5 22 0 0 4) 6 23 0 0 2000) 12 3 = (am_cp (am_cp (am_cp (am_cp (u2 dt 18 0 (dt 1 0)) 2 19 0 0 192) 3 20 0 0 8) 4 21 0 0 256) 5 22 0 0 4) 12 3 := rfl
  have w91 : (am_cp (am_cp (am_cp (am_cp (am_cp (u2 dt 18 0 (dt 1 0)) 2 19 0 0 192) 3 20 0 0 8) 4 21 0 0 256) 5 22 0 0 4) 6 23 0 0 2000) 14 3 = (am_cp (am_cp (am_cp (am_cp (u2 dt 18 0 (dt 1 0)) 2 19 0 0 192) 3 20 0 0 8) 4 21 0 0 256) 5 22 0 0 4) 14 3 := rfl
  have w92 : (am_cp (am_cp (am_cp (am_cp (am_cp (u2 dt 18 0 (dt 1 0)) 2 19 0 0 192) 3 20 0 0 8) 4 21 0 0 256) 5 22 0 0 4) 6 23 0 0 2000) 16 3 = (am_cp (am_cp (am_cp (am_cp (u2 dt 18 0 (dt 1 0)) 2 19 0 0 192) 3 20 0 0 8) 4 21 0 0 256) 5 22 0 0 4) 16 3 := rfl
  have T93 : ∀ j : Nat, j < 192 → (am_cp (am_cp (am_cp (am_cp (am_cp (u2 dt 18 0 (dt 1 0)) 2 19 0 0 192) 3 20 0 0 8) 4 21 0 0 256) 5 22 0 0 4) 6 23 0 0 2000) 19 j = dt 2 j := fun j hj => (cp_ne (by decide)).trans (T77 j hj)
  have T94 : ∀ j : Nat, j < 8 → (am_cp (am_cp (am_cp (am_cp (am_cp (u2 dt 18 0 (dt 1 0)) 2 19 0 0 192) 3 20 0 0 8) 4 21 0 0 256) 5 22 0 0 4) 6 23 0 0 2000) 20 j = dt 3 j := fun j hj => (cp_ne (by decide)).trans (T78 j hj)
  refine go_cpy (L' := [some (.inr (.inr (some 18))), some (.inr (.inr (some 1)))]) (st' := []) (w' := (SH, (am_cp (am_cp (am_cp (am_cp (am_cp (u2 dt 18 0 (dt 1 0)) 2 19 0 0 192) 3 20 0 0 8) 4 21 0 0 256) 5 22 0 0 4) 6 23 0 0 2000))) rfl rfl (s_cpy (n0 := 2000) (n1 := 2000) rfl rfl ⟨⟨by omega, by omega, by omega⟩, by omega, by omega, by decide⟩) ?_
  refine go_to (k := 9) (pc' := 113) (L' := [some (.inr (.inr (some 18))), some (.inr (.inr (some 1)))]) (st' := [.inl 132, .inl 0, .inr (.inr (some 26)), .inl 0, .inr (.inr (some 9))]) (w' := (SH, (am_cp (am_cp (am_cp (am_cp (am_cp (u2 dt 18 0 (dt 1 0)) 2 19 0 0 192) 3 20 0 0 8) 4 21 0 0 256) 5 22 0 0 4) 6 23 0 0 2000))) (fun _ => rfl) ?_
  have hI95 : InvC (am_cp (am_cp (am_cp (am_cp (am_cp (am_cp (u2 dt 18 0 (dt 1 0)) 2 19 0 0 192) 3 20 0 0 8) 4 21 0 0 256) 5 22 0 0 4) 6 23 0 0 2000) 9 26 0 0 132) := InvC_cp hI79 (fun _ _ => rfl) (fun _ _ => rfl) (fun _ => rfl)
  have hF96 : Fr [18, 19, 20, 21, 22, 23, 24, 25, 26, 27, 28, 29, 30, 31, 32, 33, 34] dt (am_cp (am_cp (am_cp (am_cp (am_cp (am_cp (u2 dt 18 0 (dt 1 0)) 2 19 0 0 192) 3 20 0 0 8) 4 21 0 0 256) 5 22 0 0 4) 6 23 0 0 2000) 9 26 0 0 132) := Fr_cp hF80 (by decide)
  have w97 : (am_cp (am_cp (am_cp (am_cp (am_cp (am_cp (u2 dt 18 0 (dt 1 0)) 2 19 0 0 192) 3 20 0 0 8) 4 21 0 0 256) 5 22 0 0 4) 6 23 0 0 2000) 9 26 0 0 132) 18 0 = (am_cp (am_cp (am_cp (am_cp (am_cp (u2 dt 18 0 (dt 1 0)) 2 19 0 0 192) 3 20 0 0 8) 4 21 0 0 256) 5 22 0 0 4) 6 23 0 0 2000) 18 0 := rfl
  have w98 : (am_cp (am_cp (am_cp (am_cp (am_cp (am_cp (u2 dt 18 0 (dt 1 0)) 2 19 0 0 192) 3 20 0 0 8) 4 21 0 0 256) 5 22 0 0 4) 6 23 0 0 2000) 9 26 0 0 132) 24 3 = (am_cp (am_cp (am_cp (am_cp (am_cp (u2 dt 18 0 (dt 1 0)) 2 19 0 0 192) 3 20 0 0 8) 4 21 0 0 256) 5 22 0 0 4) 6 23 0 0 2000) 24 3 := rfl
  have w99 : (am_cp (am_cp (am_cp (am_cp (am_cp (am_cp (u2 dt 18 0 (dt 1 0)) 2 19 0 0 192) 3 20 0 0 8) 4 21 0 0 256) 5 22 0 0 4) 6 23 0 0 2000) 9 26 0 0 132) 27 3 = (am_cp (am_cp (am_cp (am_cp (am_cp (u2 dt 18 0 (dt 1 0)) 2 19 0 0 192) 3 20 0 0 8) 4 21 0 0 256) 5 22 0 0 4) 6 23 0 0 2000) 27 3 := rfl
  have w100 : (am_cp (am_cp (am_cp (am_cp (am_cp (am_cp (u2 dt 18 0 (dt 1 0)) 2 19 0 0 192) 3 20 0 0 8) 4 21 0 0 256) 5 22 0 0 4) 6 23 0 0 2000) 9 26 0 0 132) 29 3 = (am_cp (am_cp (am_cp (am_cp (am_cp (u2 dt 18 0 (dt 1 0)) 2 19 0 0 192) 3 20 0 0 8) 4 21 0 0 256) 5 22 0 0 4) 6 23 0 0 2000) 29 3 := rfl
  have w101 : (am_cp (am_cp (am_cp (am_cp (am_cp (am_cp (u2 dt 18 0 (dt 1 0)) 2 19 0 0 192) 3 20 0 0 8) 4 21 0 0 256) 5 22 0 0 4) 6 23 0 0 2000) 9 26 0 0 132) 31 3 = (am_cp (am_cp (am_cp (am_cp (am_cp (u2 dt 18 0 (dt 1 0)) 2 19 0 0 192) 3 20 0 0 8) 4 21 0 0 256) 5 22 0 0 4) 6 23 0 0 2000) 31 3 := rfl
  have w102 : (am_cp (am_cp (am_cp (am_cp (am_cp (am_cp (u2 dt 18 0 (dt 1 0)) 2 19 0 0 192) 3 20 0 0 8) 4 21 0 0 256) 5 22 0 0 4) 6 23 0 0 2000) 9 26 0 0 132) 33 3 = (am_cp (am_cp (am_cp (am_cp (am_cp (u2 dt 18 0 (dt 1 0)) 2 19 0 0 192) 3 20 0 0 8) 4 21 0 0 256) 5 22 0 0 4) 6 23 0 0 2000) 33 3 := rfl
  have w103 : (am_cp (am_cp (am_cp (am_cp (am_cp (am_cp (u2 dt 18 0 (dt 1 0)) 2 19 0 0 192) 3 20 0 0 8) 4 21 0 0 256) 5 22 0 0 4) 6 23 0 0 2000) 9 26 0 0 132) 1 0 = (am_cp (am_cp (am_cp (am_cp (am_cp (u2 dt 18 0 (dt 1 0)) 2 19 0 0 192) 3 20 0 0 8) 4 21 0 0 256) 5 22 0 0 4) 6 23 0 0 2000) 1 0 := rfl
  have w104 : (am_cp (am_cp (am_cp (am_cp (am_cp (am_cp (u2 dt 18 0 (dt 1 0)) 2 19 0 0 192) 3 20 0 0 8) 4 21 0 0 256) 5 22 0 0 4) 6 23 0 0 2000) 9 26 0 0 132) 7 3 = (am_cp (am_cp (am_cp (am_cp (am_cp (u2 dt 18 0 (dt 1 0)) 2 19 0 0 192) 3 20 0 0 8) 4 21 0 0 256) 5 22 0 0 4) 6 23 0 0 2000) 7 3 := rfl
  have w105 : (am_cp (am_cp (am_cp (am_cp (am_cp (am_cp (u2 dt 18 0 (dt 1 0)) 2 19 0 0 192) 3 20 0 0 8) 4 21 0 0 256) 5 22 0 0 4) 6 23 0 0 2000) 9 26 0 0 132) 10 3 = (am_cp (am_cp (am_cp (am_cp (am_cp (u2 dt 18 0 (dt 1 0)) 2 19 0 0 192) 3 20 0 0 8) 4 21 0 0 256) 5 22 0 0 4) 6 23 0 0 2000) 10 3 := rfl
  have w106 : (am_cp (am_cp (am_cp (am_cp (am_cp (am_cp (u2 dt 18 0 (dt 1 0)) 2 19 0 0 192) 3 20 0 0 8) 4 21 0 0 256) 5 22 0 0 4) 6 23 0 0 2000) 9 26 0 0 132) 12 3 = (am_cp (am_cp (am_cp (am_cp (am_cp (u2 dt 18 0 (dt 1 0)) 2 19 0 0 192) 3 20 0 0 8) 4 21 0 0 256) 5 22 0 0 4) 6 23 0 0 2000) 12 3 := rfl
  have w107 : (am_cp (am_cp (am_cp (am_cp (am_cp (am_cp (u2 dt 18 0 (dt 1 0)) 2 19 0 0 192) 3 20 0 0 8) 4 21 0 0 256) 5 22 0 0 4) 6 23 0 0 2000) 9 26 0 0 132) 14 3 = (am_cp (am_cp (am_cp (am_cp (am_cp (u2 dt 18 0 (dt 1 0)) 2 19 0 0 192) 3 20 0 0 8) 4 21 0 0 256) 5 22 0 0 4) 6 23 0 0 2000) 14 3 := rfl
  have w108 : (am_cp (am_cp (am_cp (am_cp (am_cp (am_cp (u2 dt 18 0 (dt 1 0)) 2 19 0 0 192) 3 20 0 0 8) 4 21 0 0 256) 5 22 0 0 4) 6 23 0 0 2000) 9 26 0 0 132) 16 3 = (am_cp (am_cp (am_cp (am_cp (am_cp (u2 dt 18 0 (dt 1 0)) 2 19 0 0 192) 3 20 0 0 8) 4 21 0 0 256) 5 22 0 0 4) 6 23 0 0 2000) 16 3 := rfl
  have T109 : ∀ j : Nat, j < 192 → (am_cp (am_cp (am_cp (am_cp (am_cp (am_cp (u2 dt 18 0 (dt 1 0)) 2 19 0 0 192) 3 20 0 0 8) 4 21 0 0 256) 5 22 0 0 4) 6 23 0 0 2000) 9 26 0 0 132) 19 j = dt 2 j := fun j hj => (cp_ne (by decide)).trans (T93 j hj)
  have T110 : ∀ j : Nat, j < 8 → (am_cp (am_cp (am_cp (am_cp (am_cp (am_cp (u2 dt 18 0 (dt 1 0)) 2 19 0 0 192) 3 20 0 0 8) 4 21 0 0 256) 5 22 0 0 4) 6 23 0 0 2000) 9 26 0 0 132) 20 j = dt 3 j := fun j hj => (cp_ne (by decide)).trans (T94 j hj)
  have T111 : ∀ j : Nat, j < 132 → (am_cp (am_cp (am_cp (am_cp (am_cp (am_cp (u2 dt 18 0 (dt 1 0)) 2 19 0 0 192) 3 20 0 0 8) 4 21 0 0 256) 5 22 0 0 4) 6 23 0 0 2000) 9 26 0 0 132) 26 j = dt 9 j := fun j hj => (cp_atv hj).trans (hF80 9 (by decide) j)
  refine go_cpy (L' := [some (.inr (.inr (some 18))), some (.inr (.inr (some 1)))]) (st' := []) (w' := (SH, (am_cp (am_cp (am_cp (am_cp (am_cp (am_cp (u2 dt 18 0 (dt 1 0)) 2 19 0 0 192) 3 20 0 0 8) 4 21 0 0 256) 5 22 0 0 4) 6 23 0 0 2000) 9 26 0 0 132))) rfl rfl (s_cpy (n0 := 132) (n1 := 132) rfl rfl ⟨⟨by omega, by omega, by omega⟩, by omega, by omega, by decide⟩) ?_
  refine go_to (k := 4) (pc' := 124) (L' := [some (.inr (.inr (some 18))), some (.inr (.inr (some 1)))]) (st' := [.inr (.inr (some 7)), .inr (.inr (some 24))]) (w' := (SH, (am_cp (am_cp (am_cp (am_cp (am_cp (am_cp (u2 dt 18 0 (dt 1 0)) 2 19 0 0 192) 3 20 0 0 8) 4 21 0 0 256) 5 22 0 0 4) 6 23 0 0 2000) 9 26 0 0 132))) (fun _ => rfl) ?_
  refine go_call (Q' := _) rfl rfl rfl rfl rfl (sp_X2_copyFrom_24f L xs sio (d + 0) (am_cp (am_cp (am_cp (am_cp (am_cp (am_cp (u2 dt 18 0 (dt 1 0)) 2 19 0 0 192) 3 20 0 0 8) 4 21 0 0 256) 5 22 0 0 4) 6 23 0 0 2000) 9 26 0 0 132) hI95   ) ?_
  rintro _ _ ⟨dt113, rfl, hI114, hF115, h112⟩
  refine ⟨rfl, ?_⟩
  have hF116 : Fr [18, 19, 20, 21, 22, 23, 24, 25, 26, 27, 28, 29, 30, 31, 32, 33, 34] dt dt113 := Fr_tr hF96 hF115 (by decide)
  have w117 : dt113 18 0 = (am_cp (am_cp (am_cp (am_cp (am_cp (am_cp (u2 dt 18 0 (dt 1 0)) 2 19 0 0 192) 3 20 0 0 8) 4 21 0 0 256) 5 22 0 0 4) 6 23 0 0 2000) 9 26 0 0 132) 18 0 := hF115 18 (by decide) 0
  have w118 : dt113 27 3 = (am_cp (am_cp (am_cp (am_cp (am_cp (am_cp (u2 dt 18 0 (dt 1 0)) 2 19 0 0 192) 3 20 0 0 8) 4 21 0 0 256) 5 22 0 0 4) 6 23 0 0 2000) 9 26 0 0 132) 27 3 := hF115 27 (by decide) 3
  have w119 : dt113 29 3 = (am_cp (am_cp (am_cp (am_cp (am_cp (am_cp (u2 dt 18 0 (dt 1 0)) 2 19 0 0 192) 3 20 0 0 8) 4 21 0 0 256) 5 22 0 0 4) 6 23 0 0 2000) 9 26 0 0 132) 29 3 := hF115 29 (by decide) 3
  have w120 : dt113 31 3 = (am_cp (am_cp (am_cp (am_cp (am_cp (am_cp (u2 dt 18 0 (dt 1 0)) 2 19 0 0 192) 3 20 0 0 8) 4 21 0 0 256) 5 22 0 0 4) 6 23 0 0 2000) 9 26 0 0 132) 31 3 := hF115 31 (by decide) 3
  have w121 : dt113 33 3 = (am_cp (am_cp (am_cp (am_cp (am_cp (am_cp (u2 dt 18 0 (dt 1 0)) 2 19 0 0 192) 3 20 0 0 8) 4 21 0 0 256) 5 22 0 0 4) 6 23 0 0 2000) 9 26 0 0 132) 33 3 := hF115 33 (by decide) 3
  have w122 : dt113 1 0 = (am_cp (am_cp (am_cp (am_cp (am_cp (am_cp (u2 dt 18 0 (dt 1 0)) 2 19 0 0 192) 3 20 0 0 8) 4 21 0 0 256) 5 22 0 0 4) 6 23 0 0 2000) 9 26 0 0 132) 1 0 := hF115 1 (by decide) 0
  have w123 : dt113 7 3 = (am_cp (am_cp (am_cp (am_cp (am_cp (am_cp (u2 dt 18 0 (dt 1 0)) 2 19 0 0 192) 3 20 0 0 8) 4 21 0 0 256) 5 22 0 0 4) 6 23 0 0 2000) 9 26 0 0 132) 7 3 := hF115 7 (by decide) 3
  have w124 : dt113 10 3 = (am_cp (am_cp (am_cp (am_cp (am_cp (am_cp (u2 dt 18 0 (dt 1 0)) 2 19 0 0 192) 3 20 0 0 8) 4 21 0 0 256) 5 22 0 0 4) 6 23 0 0 2000) 9 26 0 0 132) 10 3 := hF115 10 (by decide) 3
  have w125 : dt113 12 3 = (am_cp (am_cp (am_cp (am_cp (am_cp (am_cp (u2 dt 18 0 (dt 1 0)) 2 19 0 0 192) 3 20 0 0 8) 4 21 0 0 256) 5 22 0 0 4) 6 23 0 0 2000) 9 26 0 0 132) 12 3 := hF115 12 (by decide) 3
  have w126 : dt113 14 3 = (am_cp (am_cp (am_cp (am_cp (am_cp (am_cp (u2 dt 18 0 (dt 1 0)) 2 19 0 0 192) 3 20 0 0 8) 4 21 0 0 256) 5 22 0 0 4) 6 23 0 0 2000) 9 26 0 0 132) 14 3 := hF115 14 (by decide) 3
  have w127 : dt113 16 3 = (am_cp (am_cp (am_cp (am_cp (am_cp (am_cp (u2 dt 18 0 (dt 1 0)) 2 19 0 0 192) 3 20 0 0 8) 4 21 0 0 256) 5 22 0 0 4) 6 23 0 0 2000) 9 26 0 0 132) 16 3 := hF115 16 (by decide) 3
  rcases h112 with ⟨rfl, h112⟩
  obtain ⟨h112_0, h112_1⟩ := h112
  have T128 : ∀ j : Nat, j < 192 → dt113 19 j = dt 2 j := fun j hj => (hF115 19 (by decide) j).trans (T109 j hj)
  have T129 : ∀ j : Nat, j < 8 → dt113 20 j = dt 3 j := fun j hj => (hF115 20 (by decide) j).trans (T110 j hj)
  have T130 : ∀ j : Nat, j < 60 → dt113 25 j = dt 8 j := fun j hj => (h112_1 j hj).trans (hF116 8 (by decide) j)
  have T131 : ∀ j : Nat, j < 132 → dt113 26 j = dt 9 j := fun j hj => (hF115 26 (by decide) j).trans (T111 j hj)
  refine go_to (k := 4) (pc' := 135) (L' := [some (.inr (.inr (some 18))), some (.inr (.inr (some 1)))]) (st' := [.inr (.inr (some 10)), .inr (.inr (some 27))]) (w' := (SH, dt113)) (fun _ => rfl) ?_
  refine go_call (Q' := _) rfl rfl rfl rfl rfl (sp_X2_copyFrom_27 L xs sio (d + 0) dt113 hI114   ) ?_
  rintro _ _ ⟨dt133, rfl, hI134, hF135, h132⟩
  refine ⟨rfl, ?_⟩
  have hF136 : Fr [18, 19, 20, 21, 22, 23, 24, 25, 26, 27, 28, 29, 30, 31, 32, 33, 34] dt dt133 := Fr_tr hF116 hF135 (by decide)
  have w137 : dt133 18 0 = dt113 18 0 := hF135 18 (by decide) 0
  have w138 : dt133 24 3 = dt113 24 3 := hF135 24 (by decide) 3
  have w139 : dt133 29 3 = dt113 29 3 := hF135 29 (by decide) 3
  have w140 : dt133 31 3 = dt113 31 3 := hF135 31 (by decide) 3
  have w141 : dt133 33 3 = dt113 33 3 := hF135 33 (by decide) 3
  have w142 : dt133 1 0 = dt113 1 0 := hF135 1 (by decide) 0
  have w143 : dt133 7 3 = dt113 7 3 := hF135 7 (by decide) 3
  have w144 : dt133 10 3 = dt113 10 3 := hF135 10 (by decide) 3
  have w145 : dt133 12 3 = dt113 12 3 := hF135 12 (by decide) 3
  have w146 : dt133 14 3 = dt113 14 3 := hF135 14 (by decide) 3
  have w147 : dt133 16 3 = dt113 16 3 := hF135 16 (by decide) 3
  rcases h132 with ⟨rfl, h132⟩
  have T148 : ∀ j : Nat, j < 192 → dt133 19 j = dt 2 j := fun j hj => (hF135 19 (by decide) j).trans (T128 j hj)
  have T149 : ∀ j : Nat, j < 8 → dt133 20 j = dt 3 j := fun j hj => (hF135 20 (by decide) j).trans (T129 j hj)
  have T150 : ∀ j : Nat, j < 60 → dt133 25 j = dt 8 j := fun j hj => (hF135 25 (by decide) j).trans (T130 j hj)
  have T151 : ∀ j : Nat, j < 132 → dt133 26 j = dt 9 j := fun j hj => (hF135 26 (by decide) j).trans (T131 j hj)
  refine go_to (k := 4) (pc' := 146) (L' := [some (.inr (.inr (some 18))), some (.inr (.inr (some 1)))]) (st' := [.inr (.inr (some 12)), .inr (.inr (some 29))]) (w' := (SH, dt133)) (fun _ => rfl) ?_
  refine go_call (Q' := _) rfl rfl rfl rfl rfl (sp_X2_copyFrom_29 L xs sio (d + 0) dt133 hI134   ) ?_
  rintro _ _ ⟨dt153, rfl, hI154, hF155, h152⟩
  refine ⟨rfl, ?_⟩
  have hF156 : Fr [18, 19, 20, 21, 22, 23, 24, 25, 26, 27, 28, 29, 30, 31, 32, 33, 34] dt dt153 := Fr_tr hF136 hF155 (by decide)
  have w157 : dt153 18 0 = dt133 18 0 := hF155 18 (by decide) 0
  have w158 : dt153 24 3 = dt133 24 3 := hF155 24 (by decide) 3
  have w159 : dt153 27 3 = dt133 27 3 := hF155 27 (by decide) 3
  have w160 : dt153 31 3 = dt133 31 3 := hF155 31 (by decide) 3
  have w161 : dt153 33 3 = dt133 33 3 := hF155 33 (by decide) 3
  have w162 : dt153 1 0 = dt133 1 0 := hF155 1 (by decide) 0
  have w163 : dt153 7 3 = dt133 7 3 := hF155 7 (by decide) 3
  have w164 : dt153 10 3 = dt133 10 3 := hF155 10 (by decide) 3
  have w165 : dt153 12 3 = dt133 12 3 := hF155 12 (by decide) 3
  have w166 : dt153 14 3 = dt133 14 3 := hF155 14 (by decide) 3
  have w167 : dt153 16 3 = dt133 16 3 := hF155 16 (by decide) 3
  rcases h152 with ⟨rfl, h152⟩
  have T168 : ∀ j : Nat, j < 192 → dt153 19 j = dt 2 j := fun j hj => (hF155 19 (by decide) j).trans (T148 j hj)
  have T169 : ∀ j : Nat, j < 8 → dt153 20 j = dt 3 j := fun j hj => (hF155 20 (by decide) j).trans (T149 j hj)
  have T170 : ∀ j : Nat, j < 60 → dt153 25 j = dt 8 j := fun j hj => (hF155 25 (by decide) j).trans (T150 j hj)
  have T171 : ∀ j : Nat, j < 132 → dt153 26 j = dt 9 j := fun j hj => (hF155 26 (by decide) j).trans (T151 j hj)
  refine go_to (k := 4) (pc' := 157) (L' := [some (.inr (.inr (some 18))), some (.inr (.inr (some 1)))]) (st' := [.inr (.inr (some 14)), .inr (.inr (some 31))]) (w' := (SH, dt153)) (fun _ => rfl) ?_
  refine go_call (Q' := _) rfl rfl rfl rfl rfl (sp_X2_copyFrom_31 L xs sio (d + 0) dt153 hI154   ) ?_
  rintro _ _ ⟨dt173, rfl, hI174, hF175, h172⟩
  refine ⟨rfl, ?_⟩
  have hF176 : Fr [18, 19, 20, 21, 22, 23, 24, 25, 26, 27, 28, 29, 30, 31, 32, 33, 34] dt dt173 := Fr_tr hF156 hF175 (by decide)
  have w177 : dt173 18 0 = dt153 18 0 := hF175 18 (by decide) 0
  have w178 : dt173 24 3 = dt153 24 3 := hF175 24 (by decide) 3
  have w179 : dt173 27 3 = dt153 27 3 := hF175 27 (by decide) 3
  have w180 : dt173 29 3 = dt153 29 3 := hF175 29 (by decide) 3
  have w181 : dt173 33 3 = dt153 33 3 := hF175 33 (by decide) 3
  have w182 : dt173 1 0 = dt153 1 0 := hF175 1 (by decide) 0
  have w183 : dt173 7 3 = dt153 7 3 := hF175 7 (by decide) 3
  have w184 : dt173 10 3 = dt153 10 3 := hF175 10 (by decide) 3
  have w185 : dt173 12 3 = dt153 12 3 := hF175 12 (by decide) 3
  have w186 : dt173 14 3 = dt153 14 3 := hF175 14 (by decide) 3
  have w187 : dt173 16 3 = dt153 16 3 := hF175 16 (by decide) 3
  rcases h172 with ⟨rfl, h172⟩
  have T188 : ∀ j : Nat, j < 192 → dt173 19 j = dt 2 j := fun j hj => (hF175 19 (by decide) j).trans (T168 j hj)
  have T189 : ∀ j : Nat, j < 8 → dt173 20 j = dt 3 j := fun j hj => (hF175 20 (by decide) j).trans (T169 j hj)
  have T190 : ∀ j : Nat, j < 60 → dt173 25 j = dt 8 j := fun j hj => (hF175 25 (by decide) j).trans (T170 j hj)
  have T191 : ∀ j : Nat, j < 132 → dt173 26 j = dt 9 j := fun j hj => (hF175 26 (by decide) j).trans (T171 j hj)
  refine go_to (k := 4) (pc' := 168) (L' := [some (.inr (.inr (some 18))), some (.inr (.inr (some 1)))]) (st' := [.inr (.inr (some 16)), .inr (.inr (some 33))]) (w' := (SH, dt173)) (fun _ => rfl) ?_
  refine go_call (Q' := _) rfl rfl rfl rfl rfl (sp_X2_copyFrom_33 L xs sio (d + 0) dt173 hI174   ) ?_
  rintro _ _ ⟨dt193, rfl, hI194, hF195, h192⟩
  refine ⟨rfl, ?_⟩
  have hF196 : Fr [18, 19, 20, 21, 22, 23, 24, 25, 26, 27, 28, 29, 30, 31, 32, 33, 34] dt dt193 := Fr_tr hF176 hF195 (by decide)
  have w197 : dt193 18 0 = dt173 18 0 := hF195 18 (by decide) 0
  have w198 : dt193 24 3 = dt173 24 3 := hF195 24 (by decide) 3
  have w199 : dt193 27 3 = dt173 27 3 := hF195 27 (by decide) 3
  have w200 : dt193 29 3 = dt173 29 3 := hF195 29 (by decide) 3
  have w201 : dt193 31 3 = dt173 31 3 := hF195 31 (by decide) 3
  have w202 : dt193 1 0 = dt173 1 0 := hF195 1 (by decide) 0
  have w203 : dt193 7 3 = dt173 7 3 := hF195 7 (by decide) 3
  have w204 : dt193 10 3 = dt173 10 3 := hF195 10 (by decide) 3
  have w205 : dt193 12 3 = dt173 12 3 := hF195 12 (by decide) 3
  have w206 : dt193 14 3 = dt173 14 3 := hF195 14 (by decide) 3
  have w207 : dt193 16 3 = dt173 16 3 := hF195 16 (by decide) 3
  rcases h192 with ⟨rfl, h192⟩
  have T208 : ∀ j : Nat, j < 192 → dt193 19 j = dt 2 j := fun j hj => (hF195 19 (by decide) j).trans (T188 j hj)
  have T209 : ∀ j : Nat, j < 8 → dt193 20 j = dt 3 j := fun j hj => (hF195 20 (by decide) j).trans (T189 j hj)
  have T210 : ∀ j : Nat, j < 60 → dt193 25 j = dt 8 j := fun j hj => (hF195 25 (by decide) j).trans (T190 j hj)
  have T211 : ∀ j : Nat, j < 132 → dt193 26 j = dt 9 j := fun j hj => (hF195 26 (by decide) j).trans (T191 j hj)
  refine go_ret (k := 1) (r := none) (w1 := (SH, dt193)) (fun _ => rfl) ?_
  exact ⟨dt193, rfl, hI194, hF196, ⟨rfl, ⟨by first | trivial | omega, by first | trivial | omega, by first | trivial | omega, by first | trivial | omega, by first | trivial | omega, by first | trivial | omega, by exact T208, by exact T209, by exact T210, by exact T211⟩⟩⟩
theorem chk_sp_X3_run_f (L : Nat) (xs : Nat → Int32) (sio : Option Nat) (d : Nat) (dt : Nat → Nat → Int) (hI : InvC dt)  (p2 : Int) (h_p2 : 0 ≤ p2 ∧ p2 ≤ 3) (p3 : Int) (h_p3 : 0 ≤ p3 ∧ p3 ≤ 500) (p4 : Int) (h_p4 : 0 ≤ p4 ∧ p4 ≤ 500)  : GO (am_XX L xs sio) (d + 1) 48 0 [some (.inr (.inr (some 71))), some (.inr (.inr (some 6))), some (.inl p2), some (.inl p3), some (.inl p4), none, none, none, none] [] (SH, dt) (fun r w2 => ∃ dt2 : Nat → Nat → Int, w2 = (SH, dt2) ∧ InvC dt2 ∧ Fr [74] dt dt2 ∧ ((∃ v : Int, r = some (.inl v) ∧ ((-2147483648) ≤ v ∧ v ≤ 2147483647) ∧ (v = RUNB (GVF (dt 73)) (lst (dt 6) (500 * p2.toNat + p3.toNat) (p4 - p3).toNat))))) := by
  have hF : Fr [74] dt dt := Fr_refl
  refine go_to (k := 4) (pc' := 6) (L' := [some (.inr (.inr (some 71))), some (.inr (.inr (some 6))), some (.inl p2), some (.inl p3), some (.inl p4), some (.inl (-1)), some (.inl p3), none, none]) (st' := []) (w' := (SH, dt)) (fun _ => rfl) ?_
  have loop42 : ∀ (k_ : Nat) (l6_5 : Int) (l6_6 : Int) (dt35 : Nat → Nat → Int) (hI36 : InvC dt35) (hF37 : Fr [74] dt dt35) (i38 : (-1) ≤ l6_5 ∧ l6_5 ≤ 63) (i39 : 0 ≤ l6_6 ∧ l6_6 ≤ 500) (i40 : CIB (dt35 74) (GVF (dt 73)) (lst (dt 6) (500 * p2.toNat + l6_6.toNat) (p4 - l6_6).toNat) l6_5 (RUNB (GVF (dt 73)) (lst (dt 6) (500 * p2.toNat + p3.toNat) (p4 - p3).toNat))) (i41 : p3 ≤ l6_6), (501 - l6_6).toNat < k_ → GO (am_XX L xs sio) (d + 1) 48 6 [some (.inr (.inr (some 71))), some (.inr (.inr (some 6))), some (.inl p2), none, some (.inl p4), some (.inl l6_5), some (.inl l6_6), none, none] [] (SH, dt35) (fun r w2 => ∃ dt2 : Nat → Nat → Int, w2 = (SH, dt2) ∧ InvC dt2 ∧ Fr [74] dt dt2 ∧ ((∃ v : Int, r = some (.inl v) ∧ ((-2147483648) ≤ v ∧ v ≤ 2147483647) ∧ (v = RUNB (GVF (dt 73)) (lst (dt 6) (500 * p2.toNat + p3.toNat) (p4 - p3).toNat))))) := by
    intro k_
    induction k_ with
    | zero => intro l6_5 l6_6 dt35 hI36 hF37 i38 i39 i40 i41 hm; exact absurd hm (Nat.not_lt_zero _)
    | succ k_ ih_loop42 =>
      intro l6_5 l6_6 dt35 hI36 hF37 i38 i39 i40 i41 hm
      have qC := i40
      refine go_if (k := 3) (p1 := 203) (p2 := 13) (L' := [some (.inr (.inr (some 71))), some (.inr (.inr (some 6))), some (.inl p2), none, some (.inl p4), some (.inl l6_5), some (.inl l6_6), none, none]) (st' := []) (w' := (SH, dt35)) (fun _ => rfl) (c_ge (a := l6_6) (b := p4) ⟨by omega, by omega⟩ ⟨by omega, by omega⟩) (fun c43 => ?_) (fun c43 => ?_)
      · skip
        refine go_if (k := 2) (p1 := 218) (p2 := 208) (L' := [some (.inr (.inr (some 71))), some (.inr (.inr (some 6))), some (.inl p2), none, some (.inl p4), some (.inl l6_5), some (.inl l6_6), none, none]) (st' := []) (w' := (SH, dt35)) (fun _ => rfl) (z_lt (a := l6_5) ⟨by omega, by omega⟩) (fun c44 => ?_) (fun c44 => ?_)
        · skip
          refine go_ret (k := 2) (r := some (.inl 0)) (w1 := (SH, dt35)) (fun _ => rfl) ?_
          exact ⟨dt35, rfl, hI36, hF37, ⟨_, rfl, ⟨by omega, by omega⟩, by exact CIB_e qC (show lst _ _ _ = [] by rw [show (p4 - l6_6).toNat = 0 by omega]; rfl) ⟨fun z_ => by omega, fun z_ => by omega⟩⟩⟩
        · skip
          refine go_to (k := 3) (pc' := 214) (L' := [some (.inr (.inr (some 71))), some (.inr (.inr (some 6))), some (.inl p2), none, some (.inl p4), some (.inl l6_5), some (.inl l6_6), none, none]) (st' := [.inl l6_5, .inr (.inr (some 74))]) (w' := (SH, dt35)) (fun _ => rfl) ?_
          have r45 : (-2147483648) ≤ dt35 74 (l6_5).toNat ∧ dt35 74 (l6_5).toNat ≤ 2147483647 := InvC_get hI36 74 (l6_5).toNat rfl rfl
          refine go_smp (L' := [some (.inr (.inr (some 71))), some (.inr (.inr (some 6))), some (.inl p2), none, some (.inl p4), some (.inl l6_5), some (.inl l6_6), none, none]) (st' := [.inl (dt35 74 (l6_5).toNat)]) (w' := (SH, dt35)) rfl rfl (s_iald (n := 64) (f := dt35 74) rfl ⟨by omega, by omega⟩) ?_
          refine go_ret (k := 2) (r := some (.inl (dt35 74 (l6_5).toNat))) (w1 := (SH, dt35)) (fun _ => rfl) ?_
          exact ⟨dt35, rfl, hI36, hF37, ⟨_, rfl, ⟨by omega, by omega⟩, by exact CIB_e qC (show lst _ _ _ = [] by rw [show (p4 - l6_6).toNat = 0 by omega]; rfl) ⟨fun z_ => by omega, fun z_ => by omega⟩⟩⟩
      · skip
        refine go_if (k := 3) (p1 := 203) (p2 := 21) (L' := [some (.inr (.inr (some 71))), some (.inr (.inr (some 6))), some (.inl p2), none, some (.inl p4), some (.inl l6_5), some (.inl l6_6), none, none]) (st' := []) (w' := (SH, dt35)) (fun _ => rfl) (c_ge (a := l6_6) (b := 500) ⟨by omega, by omega⟩ ⟨by omega, by omega⟩) (fun c46 => ?_) (fun c46 => ?_)
        · exfalso; omega
        · skip
          refine go_if (k := 2) (p1 := 52) (p2 := 26) (L' := [some (.inr (.inr (some 71))), some (.inr (.inr (some 6))), some (.inl p2), none, some (.inl p4), some (.inl l6_5), some (.inl l6_6), none, none]) (st' := []) (w' := (SH, dt35)) (fun _ => rfl) (z_lt (a := l6_6) ⟨by omega, by omega⟩) (fun c47 => ?_) (fun c47 => ?_)
          · exfalso; omega
          · skip
            refine go_if (k := 8) (p1 := 52) (p2 := 39) (L' := [some (.inr (.inr (some 71))), some (.inr (.inr (some 6))), some (.inl p2), none, some (.inl p4), some (.inl l6_5), some (.inl l6_6), none, none]) (st' := []) (w' := (SH, dt35)) (fun _ => rfl) (c_ge (a := (p2 * 500) + l6_6) (b := 2000) ⟨by omega, by omega⟩ ⟨by omega, by omega⟩) (fun c48 => ?_) (fun c48 => ?_)
            · exfalso; omega
            · skip
              refine go_to (k := 6) (pc' := 48) (L' := [some (.inr (.inr (some 71))), some (.inr (.inr (some 6))), some (.inl p2), none, some (.inl p4), some (.inl l6_5), some (.inl l6_6), none, none]) (st' := [.inl ((p2 * 500) + l6_6), .inr (.inr (some 6))]) (w' := (SH, dt35)) (fun _ => rfl) ?_
              have r49 : (-2147483648) ≤ dt 6 (((p2 * 500) + l6_6).toNat) ∧ dt 6 (((p2 * 500) + l6_6).toNat) ≤ 2147483647 := InvC_get hI 6 (((p2 * 500) + l6_6).toNat) rfl rfl
              refine go_smp (L' := [some (.inr (.inr (some 71))), some (.inr (.inr (some 6))), some (.inl p2), none, some (.inl p4), some (.inl l6_5), some (.inl l6_6), none, none]) (st' := [.inl (dt 6 (((p2 * 500) + l6_6).toNat))]) (w' := (SH, dt35)) rfl rfl (s_ev (s_iald (n := 2000) (f := dt35 6) rfl ⟨by omega, by omega⟩) (hF37 6 (by decide) _)) ?_
              refine go_if (k := 4) (p1 := 67) (p2 := 60) (L' := [some (.inr (.inr (some 71))), some (.inr (.inr (some 6))), some (.inl p2), none, some (.inl p4), some (.inl l6_5), some (.inl l6_6), some (.inl (dt 6 (((p2 * 500) + l6_6).toNat))), none]) (st' := []) (w' := (SH, dt35)) (fun _ => rfl) (z_ge (a := dt 6 (((p2 * 500) + l6_6).toNat)) ⟨by omega, by omega⟩) (fun c50 => ?_) (fun c50 => ?_)
              · skip
                refine go_if (k := 11) (p1 := 124) (p2 := 86) (L' := [some (.inr (.inr (some 71))), some (.inr (.inr (some 6))), some (.inl p2), none, some (.inl p4), some (.inl l6_5), some (.inl l6_6), some (.inl (dt 6 (((p2 * 500) + l6_6).toNat))), some (.inl ((-11) - (dt 6 (((p2 * 500) + l6_6).toNat))))]) (st' := []) (w' := (SH, dt35)) (fun _ => rfl) (c_ge (a := l6_5 + 1) (b := 64) ⟨by omega, by omega⟩ ⟨by omega, by omega⟩) (fun c51 => ?_) (fun c51 => ?_)
                · skip
                  refine go_to (k := 3) (pc' := 6) (L' := [some (.inr (.inr (some 71))), some (.inr (.inr (some 6))), some (.inl p2), none, some (.inl p4), some (.inl l6_5), some (.inl (l6_6 + 1)), some (.inl (dt 6 (((p2 * 500) + l6_6).toNat))), some (.inl ((-11) - (dt 6 (((p2 * 500) + l6_6).toNat))))]) (st' := []) (w' := (SH, dt35)) (fun _ => rfl) ?_
                  exact GO.le (ih_loop42 l6_5 (l6_6 + 1) dt35 hI36 hF37 (by first | omega | exact CIB_0 rfl | exact CIB_p qC (show ((p4 - l6_6).toNat) = (p4 - (l6_6 + 1)).toNat + 1 by omega) (show 500 * p2.toNat + (l6_6 + 1).toNat = 500 * p2.toNat + l6_6.toNat + 1 by omega) (show (((p2 * 500) + l6_6)).toNat = 500 * p2.toNat + l6_6.toNat by omega) (by omega) (by omega) (by first | (rw [if_pos (by omega)]; done) | (rw [if_neg (by omega)]; unfold GVF; first | (rw [if_neg (by omega)]; first | (rw [if_pos (by omega)]; done) | (rw [if_neg (by omega)]; done)) | (rw [if_pos (by omega)]; done))) (fun j hj => u2_ne (fun z_ => hj z_.2)) u2_eq | exact CIB_s qC (show ((p4 - l6_6).toNat) = (p4 - (l6_6 + 1)).toNat + 1 by omega) (show 500 * p2.toNat + (l6_6 + 1).toNat = 500 * p2.toNat + l6_6.toNat + 1 by omega) (show (((p2 * 500) + l6_6)).toNat = 500 * p2.toNat + l6_6.toNat by omega) (by omega) (by omega) | exact CIB_n qC (show ((p4 - l6_6).toNat) = (p4 - (l6_6 + 1)).toNat + 1 by omega) (show 500 * p2.toNat + (l6_6 + 1).toNat = 500 * p2.toNat + l6_6.toNat + 1 by omega) (show (((p2 * 500) + l6_6)).toNat = 500 * p2.toNat + l6_6.toNat by omega) (by omega) (by omega) rfl (fun j hj => u2_ne (fun z_ => hj z_.2)) u2_eq | exact CIB_b qC (show ((p4 - l6_6).toNat) = (p4 - (l6_6 + 1)).toNat + 1 by omega) (show 500 * p2.toNat + (l6_6 + 1).toNat = 500 * p2.toNat + l6_6.toNat + 1 by omega) (show (((p2 * 500) + l6_6)).toNat = 500 * p2.toNat + l6_6.toNat by omega) (by omega) (by omega) (by omega) hI rfl (fun j hj => u2_ne (fun z_ => hj z_.2)) u2_eq | exact CIB_f qC (show ((p4 - l6_6).toNat) = (p4 - (l6_6 + 1)).toNat + 1 by omega) (show 500 * p2.toNat + (l6_6 + 1).toNat = 500 * p2.toNat + l6_6.toNat + 1 by omega) (show (((p2 * 500) + l6_6)).toNat = 500 * p2.toNat + l6_6.toNat by omega) (by omega) (by omega)) (by first | omega | exact CIB_0 rfl | exact CIB_p qC (show ((p4 - l6_6).toNat) = (p4 - (l6_6 + 1)).toNat + 1 by omega) (show 500 * p2.toNat + (l6_6 + 1).toNat = 500 * p2.toNat + l6_6.toNat + 1 by omega) (show (((p2 * 500) + l6_6)).toNat = 500 * p2.toNat + l6_6.toNat by omega) (by omega) (by omega) (by first | (rw [if_pos (by omega)]; done) | (rw [if_neg (by omega)]; unfold GVF; first | (rw [if_neg (by omega)]; first | (rw [if_pos (by omega)]; done) | (rw [if_neg (by omega)]; done)) | (rw [if_pos (by omega)]; done))) (fun j hj => u2_ne (fun z_ => hj z_.2)) u2_eq | exact CIB_s qC (show ((p4 - l6_6).toNat) = (p4 - (l6_6 + 1)).toNat + 1 by omega) (show 500 * p2.toNat + (l6_6 + 1).toNat = 500 * p2.toNat + l6_6.toNat + 1 by omega) (show (((p2 * 500) + l6_6)).toNat = 500 * p2.toNat + l6_6.toNat by omega) (by omega) (by omega) | exact CIB_n qC (show ((p4 - l6_6).toNat) = (p4 - (l6_6 + 1)).toNat + 1 by omega) (show 500 * p2.toNat + (l6_6 + 1).toNat = 500 * p2.toNat + l6_6.toNat + 1 by omega) (show (((p2 * 500) + l6_6)).toNat = 500 * p2.toNat + l6_6.toNat by omega) (by omega) (by omega) rfl (fun j hj => u2_ne (fun z_ => hj z_.2)) u2_eq | exact CIB_b qC (show ((p4 - l6_6).toNat) = (p4 - (l6_6 + 1)).toNat + 1 by omega) (show 500 * p2.toNat + (l6_6 + 1).toNat = 500 * p2.toNat + l6_6.toNat + 1 by omega) (show (((p2 * 500) + l6_6)).toNat = 500 * p2.toNat + l6_6.toNat by omega) (by omega) (by omega) (by omega) hI rfl (fun j hj => u2_ne (fun z_ => hj z_.2)) u2_eq | exact CIB_f qC (show ((p4 - l6_6).toNat) = (p4 - (l6_6 + 1)).toNat + 1 by omega) (show 500 * p2.toNat + (l6_6 + 1).toNat = 500 * p2.toNat + l6_6.toNat + 1 by omega) (show (((p2 * 500) + l6_6)).toNat = 500 * p2.toNat + l6_6.toNat by omega) (by omega) (by omega)) (by first | omega | exact CIB_0 rfl | exact CIB_p qC (show ((p4 - l6_6).toNat) = (p4 - (l6_6 + 1)).toNat + 1 by omega) (show 500 * p2.toNat + (l6_6 + 1).toNat = 500 * p2.toNat + l6_6.toNat + 1 by omega) (show (((p2 * 500) + l6_6)).toNat = 500 * p2.toNat + l6_6.toNat by omega) (by omega) (by omega) (by first | (rw [if_pos (by omega)]; done) | (rw [if_neg (by omega)]; unfold GVF; first | (rw [if_neg (by omega)]; first | (rw [if_pos (by omega)]; done) | (rw [if_neg (by omega)]; done)) | (rw [if_pos (by omega)]; done))) (fun j hj => u2_ne (fun z_ => hj z_.2)) u2_eq | exact CIB_s qC (show ((p4 - l6_6).toNat) = (p4 - (l6_6 + 1)).toNat + 1 by omega) (show 500 * p2.toNat + (l6_6 + 1).toNat = 500 * p2.toNat + l6_6.toNat + 1 by omega) (show (((p2 * 500) + l6_6)).toNat = 500 * p2.toNat + l6_6.toNat by omega) (by omega) (by omega) | exact CIB_n qC (show ((p4 - l6_6).toNat) = (p4 - (l6_6 + 1)).toNat + 1 by omega) (show 500 * p2.toNat + (l6_6 + 1).toNat = 500 * p2.toNat + l6_6.toNat + 1 by omega) (show (((p2 * 500) + l6_6)).toNat = 500 * p2.toNat + l6_6.toNat by omega) (by omega) (by omega) rfl (fun j hj => u2_ne (fun z_ => hj z_.2)) u2_eq | exact CIB_b qC (show ((p4 - l6_6).toNat) = (p4 - (l6_6 + 1)).toNat + 1 by omega) (show 500 * p2.toNat + (l6_6 + 1).toNat = 500 * p2.toNat + l6_6.toNat + 1 by omega) (show (((p2 * 500) + l6_6)).toNat = 500 * p2.toNat + l6_6.toNat by omega) (by omega) (by omega) (by omega) hI rfl (fun j hj => u2_ne (fun z_ => hj z_.2)) u2_eq | exact CIB_f qC (show ((p4 - l6_6).toNat) = (p4 - (l6_6 + 1)).toNat + 1 by omega) (show 500 * p2.toNat + (l6_6 + 1).toNat = 500 * p2.toNat + l6_6.toNat + 1 by omega) (show (((p2 * 500) + l6_6)).toNat = 500 * p2.toNat + l6_6.toNat by omega) (by omega) (by omega)) (by first | omega | exact CIB_0 rfl | exact CIB_p qC (show ((p4 - l6_6).toNat) = (p4 - (l6_6 + 1)).toNat + 1 by omega) (show 500 * p2.toNat + (l6_6 + 1).toNat = 500 * p2.toNat + l6_6.toNat + 1 by omega) (show (((p2 * 500) + l6_6)).toNat = 500 * p2.toNat + l6_6.toNat by omega) (by omega) (by omega) (by first | (rw [if_pos (by omega)]; done) | (rw [if_neg (by omega)]; unfold GVF; first | (rw [if_neg (by omega)]; first | (rw [if_pos (by omega)]; done) | (rw [if_neg (by omega)]; done)) | (rw [if_pos (by omega)]; done))) (fun j hj => u2_ne (fun z_ => hj z_.2)) u2_eq | exact CIB_s qC (show ((p4 - l6_6).toNat) = (p4 - (l6_6 + 1)).toNat + 1 by omega) (show 500 * p2.toNat + (l6_6 + 1).toNat = 500 * p2.toNat + l6_6.toNat + 1 by omega) (show (((p2 * 500) + l6_6)).toNat = 500 * p2.toNat + l6_6.toNat by omega) (by omega) (by omega) | exact CIB_n qC (show ((p4 - l6_6).toNat) = (p4 - (l6_6 + 1)).toNat + 1 by omega) (show 500 * p2.toNat + (l6_6 + 1).toNat = 500 * p2.toNat + l6_6.toNat + 1 by omega) (show (((p2 * 500) + l6_6)).toNat = 500 * p2.toNat + l6_6.toNat by omega) (by omega) (by omega) rfl (fun j hj => u2_ne (fun z_ => hj z_.2)) u2_eq | exact CIB_b qC (show ((p4 - l6_6).toNat) = (p4 - (l6_6 + 1)).toNat + 1 by omega) (show 500 * p2.toNat + (l6_6 + 1).toNat = 500 * p2.toNat + l6_6.toNat + 1 by omega) (show (((p2 * 500) + l6_6)).toNat = 500 * p2.toNat + l6_6.toNat by omega) (by omega) (by omega) (by omega) hI rfl (fun j hj => u2_ne (fun z_ => hj z_.2)) u2_eq | exact CIB_f qC (show ((p4 - l6_6).toNat) = (p4 - (l6_6 + 1)).toNat + 1 by omega) (show 500 * p2.toNat + (l6_6 + 1).toNat = 500 * p2.toNat + l6_6.toNat + 1 by omega) (show (((p2 * 500) + l6_6)).toNat = 500 * p2.toNat + l6_6.toNat by omega) (by omega) (by omega)) (by omega)) ⟨.inl rfl, .inl rfl, .inl rfl, .inl rfl, .inl rfl, .inl rfl, .inl rfl, .inr ⟨rfl, trivial⟩, .inr ⟨rfl, trivial⟩, trivial⟩
                · skip
                  refine go_if (k := 6) (p1 := 105) (p2 := 100) (L' := [some (.inr (.inr (some 71))), some (.inr (.inr (some 6))), some (.inl p2), none, some (.inl p4), some (.inl (l6_5 + 1)), some (.inl l6_6), some (.inl (dt 6 (((p2 * 500) + l6_6).toNat))), some (.inl ((-11) - (dt 6 (((p2 * 500) + l6_6).toNat))))]) (st' := [.inl (l6_5 + 1), .inr (.inr (some 74))]) (w' := (SH, dt35)) (fun _ => rfl) (z_lt (a := dt 6 (((p2 * 500) + l6_6).toNat)) ⟨by omega, by omega⟩) (fun c52 => ?_) (fun c52 => ?_)
                  · exfalso; omega
                  · skip
                    refine go_to (k := 2) (pc' := 123) (L' := [some (.inr (.inr (some 71))), some (.inr (.inr (some 6))), some (.inl p2), none, some (.inl p4), some (.inl (l6_5 + 1)), some (.inl l6_6), some (.inl (dt 6 (((p2 * 500) + l6_6).toNat))), some (.inl ((-11) - (dt 6 (((p2 * 500) + l6_6).toNat))))]) (st' := [.inl (dt 6 (((p2 * 500) + l6_6).toNat)), .inl (l6_5 + 1), .inr (.inr (some 74))]) (w' := (SH, dt35)) (fun _ => rfl) ?_
                    have hI53 : InvC (u2 dt35 74 ((l6_5 + 1).toNat) (dt 6 (((p2 * 500) + l6_6).toNat))) := InvC_u2 hI36 (lo := -2147483648) (hi := 2147483647) rfl rfl rfl (by omega) (by omega)
                    have hF54 : Fr [74] dt (u2 dt35 74 ((l6_5 + 1).toNat) (dt 6 (((p2 * 500) + l6_6).toNat))) := Fr_u2 hF37 (by decide)
                    refine go_smp (L' := [some (.inr (.inr (some 71))), some (.inr (.inr (some 6))), some (.inl p2), none, some (.inl p4), some (.inl (l6_5 + 1)), some (.inl l6_6), some (.inl (dt 6 (((p2 * 500) + l6_6).toNat))), some (.inl ((-11) - (dt 6 (((p2 * 500) + l6_6).toNat))))]) (st' := []) (w' := (SH, (u2 dt35 74 ((l6_5 + 1).toNat) (dt 6 (((p2 * 500) + l6_6).toNat))))) rfl rfl (s_iast (n := 64) rfl ⟨by omega, by omega⟩ ⟨by omega, by omega⟩) ?_
                    refine go_to (k := 3) (pc' := 6) (L' := [some (.inr (.inr (some 71))), some (.inr (.inr (some 6))), some (.inl p2), none, some (.inl p4), some (.inl (l6_5 + 1)), some (.inl (l6_6 + 1)), some (.inl (dt 6 (((p2 * 500) + l6_6).toNat))), some (.inl ((-11) - (dt 6 (((p2 * 500) + l6_6).toNat))))]) (st' := []) (w' := (SH, (u2 dt35 74 ((l6_5 + 1).toNat) (dt 6 (((p2 * 500) + l6_6).toNat))))) (fun _ => rfl) ?_
                    exact GO.le (ih_loop42 (l6_5 + 1) (l6_6 + 1) (u2 dt35 74 ((l6_5 + 1).toNat) (dt 6 (((p2 * 500) + l6_6).toNat))) hI53 hF54 (by first | omega | exact CIB_0 rfl | exact CIB_p qC (show ((p4 - l6_6).toNat) = (p4 - (l6_6 + 1)).toNat + 1 by omega) (show 500 * p2.toNat + (l6_6 + 1).toNat = 500 * p2.toNat + l6_6.toNat + 1 by omega) (show (((p2 * 500) + l6_6)).toNat = 500 * p2.toNat + l6_6.toNat by omega) (by omega) (by omega) (by first | (rw [if_pos (by omega)]; done) | (rw [if_neg (by omega)]; unfold GVF; first | (rw [if_neg (by omega)]; first | (rw [if_pos (by omega)]; done) | (rw [if_neg (by omega)]; done)) | (rw [if_pos (by omega)]; done))) (fun j hj => u2_ne (fun z_ => hj z_.2)) u2_eq | exact CIB_s qC (show ((p4 - l6_6).toNat) = (p4 - (l6_6 + 1)).toNat + 1 by omega) (show 500 * p2.toNat + (l6_6 + 1).toNat = 500 * p2.toNat + l6_6.toNat + 1 by omega) (show (((p2 * 500) + l6_6)).toNat = 500 * p2.toNat + l6_6.toNat by omega) (by omega) (by omega) | exact CIB_n qC (show ((p4 - l6_6).toNat) = (p4 - (l6_6 + 1)).toNat + 1 by omega) (show 500 * p2.toNat + (l6_6 + 1).toNat = 500 * p2.toNat + l6_6.toNat + 1 by omega) (show (((p2 * 500) + l6_6)).toNat = 500 * p2.toNat + l6_6.toNat by omega) (by omega) (by omega) rfl (fun j hj => u2_ne (fun z_ => hj z_.2)) u2_eq | exact CIB_b qC (show ((p4 - l6_6).toNat) = (p4 - (l6_6 + 1)).toNat + 1 by omega) (show 500 * p2.toNat + (l6_6 + 1).toNat = 500 * p2.toNat + l6_6.toNat + 1 by omega) (show (((p2 * 500) + l6_6)).toNat = 500 * p2.toNat + l6_6.toNat by omega) (by omega) (by omega) (by omega) hI rfl (fun j hj => u2_ne (fun z_ => hj z_.2)) u2_eq | exact CIB_f qC (show ((p4 - l6_6).toNat) = (p4 - (l6_6 + 1)).toNat + 1 by omega) (show 500 * p2.toNat + (l6_6 + 1).toNat = 500 * p2.toNat + l6_6.toNat + 1 by omega) (show (((p2 * 500) + l6_6)).toNat = 500 * p2.toNat + l6_6.toNat by omega) (by omega) (by omega)) (by first | omega | exact CIB_0 rfl | exact CIB_p qC (show ((p4 - l6_6).toNat) = (p4 - (l6_6 + 1)).toNat + 1 by omega) (show 500 * p2.toNat + (l6_6 + 1).toNat = 500 * p2.toNat + l6_6.toNat + 1 by omega) (show (((p2 * 500) + l6_6)).toNat = 500 * p2.toNat + l6_6.toNat by omega) (by omega) (by omega) (by first | (rw [if_pos (by omega)]; done) | (rw [if_neg (by omega)]; unfold GVF; first | (rw [if_neg (by omega)]; first | (rw [if_pos (by omega)]; done) | (rw [if_neg (by omega)]; done)) | (rw [if_pos (by omega)]; done))) (fun j hj => u2_ne (fun z_ => hj z_.2)) u2_eq | exact CIB_s qC (show ((p4 - l6_6).toNat) = (p4 - (l6_6 + 1)).toNat + 1 by omega) (show 500 * p2.toNat + (l6_6 + 1).toNat = 500 * p2.toNat + l6_6.toNat + 1 by omega) (show (((p2 * 500) + l6_6)).toNat = 500 * p2.toNat + l6_6.toNat by omega) (by omega) (by omega) | exact CIB_n qC (show ((p4 - l6_6).toNat) = (p4 - (l6_6 + 1)).toNat + 1 by omega) (show 500 * p2.toNat + (l6_6 + 1).toNat = 500 * p2.toNat + l6_6.toNat + 1 by omega) (show (((p2 * 500) + l6_6)).toNat = 500 * p2.toNat + l6_6.toNat by omega) (by omega) (by omega) rfl (fun j hj => u2_ne (fun z_ => hj z_.2)) u2_eq | exact CIB_b qC (show ((p4 - l6_6).toNat) = (p4 - (l6_6 + 1)).toNat + 1 by omega) (show 500 * p2.toNat + (l6_6 + 1).toNat = 500 * p2.toNat + l6_6.toNat + 1 by omega) (show (((p2 * 500) + l6_6)).toNat = 500 * p2.toNat + l6_6.toNat by omega) (by omega) (by omega) (by omega) hI rfl (fun j hj => u2_ne (fun z_ => hj z_.2)) u2_eq | exact CIB_f qC (show ((p4 - l6_6).toNat) = (p4 - (l6_6 + 1)).toNat + 1 by omega) (show 500 * p2.toNat + (l6_6 + 1).toNat = 500 * p2.toNat + l6_6.toNat + 1 by omega) (show (((p2 * 500) + l6_6)).toNat = 500 * p2.toNat + l6_6.toNat by omega) (by omega) (by omega)) (by first | omega | exact CIB_0 rfl | exact CIB_p qC (show ((p4 - l6_6).toNat) = (p4 - (l6_6 + 1)).toNat + 1 by omega) (show 500 * p2.toNat + (l6_6 + 1).toNat = 500 * p2.toNat + l6_6.toNat + 1 by omega) (show (((p2 * 500) + l6_6)).toNat = 500 * p2.toNat + l6_6.toNat by omega) (by omega) (by omega) (by first | (rw [if_pos (by omega)]; done) | (rw [if_neg (by omega)]; unfold GVF; first | (rw [if_neg (by omega)]; first | (rw [if_pos (by omega)]; done) | (rw [if_neg (by omega)]; done)) | (rw [if_pos (by omega)]; done))) (fun j hj => u2_ne (fun z_ => hj z_.2)) u2_eq | exact CIB_s qC (show ((p4 - l6_6).toNat) = (p4 - (l6_6 + 1)).toNat + 1 by omega) (show 500 * p2.toNat + (l6_6 + 1).toNat = 500 * p2.toNat + l6_6.toNat + 1 by omega) (show (((p2 * 500) + l6_6)).toNat = 500 * p2.toNat + l6_6.toNat by omega) (by omega) (by omega) | exact CIB_n qC (show ((p4 - l6_6).toNat) = (p4 - (l6_6 + 1)).toNat + 1 by omega) (show 500 * p2.toNat + (l6_6 + 1).toNat = 500 * p2.toNat + l6_6.toNat + 1 by omega) (show (((p2 * 500) + l6_6)).toNat = 500 * p2.toNat + l6_6.toNat by omega) (by omega) (by omega) rfl (fun j hj => u2_ne (fun z_ => hj z_.2)) u2_eq | exact CIB_b qC (show ((p4 - l6_6).toNat) = (p4 - (l6_6 + 1)).toNat + 1 by omega) (show 500 * p2.toNat + (l6_6 + 1).toNat = 500 * p2.toNat + l6_6.toNat + 1 by omega) (show (((p2 * 500) + l6_6)).toNat = 500 * p2.toNat + l6_6.toNat by omega) (by omega) (by omega) (by omega) hI rfl (fun j hj => u2_ne (fun z_ => hj z_.2)) u2_eq | exact CIB_f qC (show ((p4 - l6_6).toNat) = (p4 - (l6_6 + 1)).toNat + 1 by omega) (show 500 * p2.toNat + (l6_6 + 1).toNat = 500 * p2.toNat + l6_6.toNat + 1 by omega) (show (((p2 * 500) + l6_6)).toNat = 500 * p2.toNat + l6_6.toNat by omega) (by omega) (by omega)) (by first | omega | exact CIB_0 rfl | exact CIB_p qC (show ((p4 - l6_6).toNat) = (p4 - (l6_6 + 1)).toNat + 1 by omega) (show 500 * p2.toNat + (l6_6 + 1).toNat = 500 * p2.toNat + l6_6.toNat + 1 by omega) (show (((p2 * 500) + l6_6)).toNat = 500 * p2.toNat + l6_6.toNat by omega) (by omega) (by omega) (by first | (rw [if_pos (by omega)]; done) | (rw [if_neg (by omega)]; unfold GVF; first | (rw [if_neg (by omega)]; first | (rw [if_pos (by omega)]; done) | (rw [if_neg (by omega)]; done)) | (rw [if_pos (by omega)]; done))) (fun j hj => u2_ne (fun z_ => hj z_.2)) u2_eq | exact CIB_s qC (show ((p4 - l6_6).toNat) = (p4 - (l6_6 + 1)).toNat + 1 by omega) (show 500 * p2.toNat + (l6_6 + 1).toNat = 500 * p2.toNat + l6_6.toNat + 1 by omega) (show (((p2 * 500) + l6_6)).toNat = 500 * p2.toNat + l6_6.toNat by omega) (by omega) (by omega) | exact CIB_n qC (show ((p4 - l6_6).toNat) = (p4 - (l6_6 + 1)).toNat + 1 by omega) (show 500 * p2.toNat + (l6_6 + 1).toNat = 500 * p2.toNat + l6_6.toNat + 1 by omega) (show (((p2 * 500) + l6_6)).toNat = 500 * p2.toNat + l6_6.toNat by omega) (by omega) (by omega) rfl (fun j hj => u2_ne (fun z_ => hj z_.2)) u2_eq | exact CIB_b qC (show ((p4 - l6_6).toNat) = (p4 - (l6_6 + 1)).toNat + 1 by omega) (show 500 * p2.toNat + (l6_6 + 1).toNat = 500 * p2.toNat + l6_6.toNat + 1 by omega) (show (((p2 * 500) + l6_6)).toNat = 500 * p2.toNat + l6_6.toNat by omega) (by omega) (by omega) (by omega) hI rfl (fun j hj => u2_ne (fun z_ => hj z_.2)) u2_eq | exact CIB_f qC (show ((p4 - l6_6).toNat) = (p4 - (l6_6 + 1)).toNat + 1 by omega) (show 500 * p2.toNat + (l6_6 + 1).toNat = 500 * p2.toNat + l6_6.toNat + 1 by omega) (show (((p2 * 500) + l6_6)).toNat = 500 * p2.toNat + l6_6.toNat by omega) (by omega) (by omega)) (by omega)) ⟨.inl rfl, .inl rfl, .inl rfl, .inl rfl, .inl rfl, .inl rfl, .inl rfl, .inr ⟨rfl, trivial⟩, .inr ⟨rfl, trivial⟩, trivial⟩
              · skip
                refine go_if (k := 3) (p1 := 127) (p2 := 67) (L' := [some (.inr (.inr (some 71))), some (.inr (.inr (some 6))), some (.inl p2), none, some (.inl p4), some (.inl l6_5), some (.inl l6_6), some (.inl (dt 6 (((p2 * 500) + l6_6).toNat))), none]) (st' := []) (w' := (SH, dt35)) (fun _ => rfl) (c_gt (a := dt 6 (((p2 * 500) + l6_6).toNat)) (b := (-11)) ⟨by omega, by omega⟩ ⟨by omega, by omega⟩) (fun c55 => ?_) (fun c55 => ?_)
                · skip
                  refine go_if (k := 3) (p1 := 158) (p2 := 134) (L' := [some (.inr (.inr (some 71))), some (.inr (.inr (some 6))), some (.inl p2), none, some (.inl p4), some (.inl l6_5), some (.inl l6_6), some (.inl (dt 6 (((p2 * 500) + l6_6).toNat))), none]) (st' := []) (w' := (SH, dt35)) (fun _ => rfl) (c_ne (a := dt 6 (((p2 * 500) + l6_6).toNat)) (b := (-8)) ⟨by omega, by omega⟩ ⟨by omega, by omega⟩) (fun c56 => ?_) (fun c56 => ?_)
                  · skip
                    refine go_if (k := 3) (p1 := 197) (p2 := 164) (L' := [some (.inr (.inr (some 71))), some (.inr (.inr (some 6))), some (.inl p2), none, some (.inl p4), some (.inl l6_5), some (.inl l6_6), some (.inl (dt 6 (((p2 * 500) + l6_6).toNat))), none]) (st' := []) (w' := (SH, dt35)) (fun _ => rfl) (c_lt (a := l6_5) (b := 1) ⟨by omega, by omega⟩ ⟨by omega, by omega⟩) (fun c57 => ?_) (fun c57 => ?_)
                    · skip
                      refine go_to (k := 2) (pc' := 6) (L' := [some (.inr (.inr (some 71))), some (.inr (.inr (some 6))), some (.inl p2), none, some (.inl p4), some (.inl l6_5), some (.inl (l6_6 + 1)), some (.inl (dt 6 (((p2 * 500) + l6_6).toNat))), none]) (st' := []) (w' := (SH, dt35)) (fun _ => rfl) ?_
                      exact GO.le (ih_loop42 l6_5 (l6_6 + 1) dt35 hI36 hF37 (by first | omega | exact CIB_0 rfl | exact CIB_p qC (show ((p4 - l6_6).toNat) = (p4 - (l6_6 + 1)).toNat + 1 by omega) (show 500 * p2.toNat + (l6_6 + 1).toNat = 500 * p2.toNat + l6_6.toNat + 1 by omega) (show (((p2 * 500) + l6_6)).toNat = 500 * p2.toNat + l6_6.toNat by omega) (by omega) (by omega) (by first | (rw [if_pos (by omega)]; done) | (rw [if_neg (by omega)]; unfold GVF; first | (rw [if_neg (by omega)]; first | (rw [if_pos (by omega)]; done) | (rw [if_neg (by omega)]; done)) | (rw [if_pos (by omega)]; done))) (fun j hj => u2_ne (fun z_ => hj z_.2)) u2_eq | exact CIB_s qC (show ((p4 - l6_6).toNat) = (p4 - (l6_6 + 1)).toNat + 1 by omega) (show 500 * p2.toNat + (l6_6 + 1).toNat = 500 * p2.toNat + l6_6.toNat + 1 by omega) (show (((p2 * 500) + l6_6)).toNat = 500 * p2.toNat + l6_6.toNat by omega) (by omega) (by omega) | exact CIB_n qC (show ((p4 - l6_6).toNat) = (p4 - (l6_6 + 1)).toNat + 1 by omega) (show 500 * p2.toNat + (l6_6 + 1).toNat = 500 * p2.toNat + l6_6.toNat + 1 by omega) (show (((p2 * 500) + l6_6)).toNat = 500 * p2.toNat + l6_6.toNat by omega) (by omega) (by omega) rfl (fun j hj => u2_ne (fun z_ => hj z_.2)) u2_eq | exact CIB_b qC (show ((p4 - l6_6).toNat) = (p4 - (l6_6 + 1)).toNat + 1 by omega) (show 500 * p2.toNat + (l6_6 + 1).toNat = 500 * p2.toNat + l6_6.toNat + 1 by omega) (show (((p2 * 500) + l6_6)).toNat = 500 * p2.toNat + l6_6.toNat by omega) (by omega) (by omega) (by omega) hI rfl (fun j hj => u2_ne (fun z_ => hj z_.2)) u2_eq | exact CIB_f qC (show ((p4 - l6_6).toNat) = (p4 - (l6_6 + 1)).toNat + 1 by omega) (show 500 * p2.toNat + (l6_6 + 1).toNat = 500 * p2.toNat + l6_6.toNat + 1 by omega) (show (((p2 * 500) + l6_6)).toNat = 500 * p2.toNat + l6_6.toNat by omega) (by omega) (by omega)) (by first | omega | exact CIB_0 rfl | exact CIB_p qC (show ((p4 - l6_6).toNat) = (p4 - (l6_6 + 1)).toNat + 1 by omega) (show 500 * p2.toNat + (l6_6 + 1).toNat = 500 * p2.toNat + l6_6.toNat + 1 by omega) (show (((p2 * 500) + l6_6)).toNat = 500 * p2.toNat + l6_6.toNat by omega) (by omega) (by omega) (by first | (rw [if_pos (by omega)]; done) | (rw [if_neg (by omega)]; unfold GVF; first | (rw [if_neg (by omega)]; first | (rw [if_pos (by omega)]; done) | (rw [if_neg (by omega)]; done)) | (rw [if_pos (by omega)]; done))) (fun j hj => u2_ne (fun z_ => hj z_.2)) u2_eq | exact CIB_s qC (show ((p4 - l6_6).toNat) = (p4 - (l6_6 + 1)).toNat + 1 by omega) (show 500 * p2.toNat + (l6_6 + 1).toNat = 500 * p2.toNat + l6_6.toNat + 1 by omega) (show (((p2 * 500) + l6_6)).toNat = 500 * p2.toNat + l6_6.toNat by omega) (by omega) (by omega) | exact CIB_n qC (show ((p4 - l6_6).toNat) = (p4 - (l6_6 + 1)).toNat + 1 by omega) (show 500 * p2.toNat + (l6_6 + 1).toNat = 500 * p2.toNat + l6_6.toNat + 1 by omega) (show (((p2 * 500) + l6_6)).toNat = 500 * p2.toNat + l6_6.toNat by omega) (by omega) (by omega) rfl (fun j hj => u2_ne (fun z_ => hj z_.2)) u2_eq | exact CIB_b qC (show ((p4 - l6_6).toNat) = (p4 - (l6_6 + 1)).toNat + 1 by omega) (show 500 * p2.toNat + (l6_6 + 1).toNat = 500 * p2.toNat + l6_6.toNat + 1 by omega) (show (((p2 * 500) + l6_6)).toNat = 500 * p2.toNat + l6_6.toNat by omega) (by omega) (by omega) (by omega) hI rfl (fun j hj => u2_ne (fun z_ => hj z_.2)) u2_eq | exact CIB_f qC (show ((p4 - l6_6).toNat) = (p4 - (l6_6 + 1)).toNat + 1 by omega) (show 500 * p2.toNat + (l6_6 + 1).toNat = 500 * p2.toNat + l6_6.toNat + 1 by omega) (show (((p2 * 500) + l6_6)).toNat = 500 * p2.toNat + l6_6.toNat by omega) (by omega) (by omega)) (by first | omega | exact CIB_0 rfl | exact CIB_p qC (show ((p4 - l6_6).toNat) = (p4 - (l6_6 + 1)).toNat + 1 by omega) (show 500 * p2.toNat + (l6_6 + 1).toNat = 500 * p2.toNat + l6_6.toNat + 1 by omega) (show (((p2 * 500) + l6_6)).toNat = 500 * p2.toNat + l6_6.toNat by omega) (by omega) (by omega) (by first | (rw [if_pos (by omega)]; done) | (rw [if_neg (by omega)]; unfold GVF; first | (rw [if_neg (by omega)]; first | (rw [if_pos (by omega)]; done) | (rw [if_neg (by omega)]; done)) | (rw [if_pos (by omega)]; done))) (fun j hj => u2_ne (fun z_ => hj z_.2)) u2_eq | exact CIB_s qC (show ((p4 - l6_6).toNat) = (p4 - (l6_6 + 1)).toNat + 1 by omega) (show 500 * p2.toNat + (l6_6 + 1).toNat = 500 * p2.toNat + l6_6.toNat + 1 by omega) (show (((p2 * 500) + l6_6)).toNat = 500 * p2.toNat + l6_6.toNat by omega) (by omega) (by omega) | exact CIB_n qC (show ((p4 - l6_6).toNat) = (p4 - (l6_6 + 1)).toNat + 1 by omega) (show 500 * p2.toNat + (l6_6 + 1).toNat = 500 * p2.toNat + l6_6.toNat + 1 by omega) (show (((p2 * 500) + l6_6)).toNat = 500 * p2.toNat + l6_6.toNat by omega) (by omega) (by omega) rfl (fun j hj => u2_ne (fun z_ => hj z_.2)) u2_eq | exact CIB_b qC (show ((p4 - l6_6).toNat) = (p4 - (l6_6 + 1)).toNat + 1 by omega) (show 500 * p2.toNat + (l6_6 + 1).toNat = 500 * p2.toNat + l6_6.toNat + 1 by omega) (show (((p2 * 500) + l6_6)).toNat = 500 * p2.toNat + l6_6.toNat by omega) (by omega) (by omega) (by omega) hI rfl (fun j hj => u2_ne (fun z_ => hj z_.2)) u2_eq | exact CIB_f qC (show ((p4 - l6_6).toNat) = (p4 - (l6_6 + 1)).toNat + 1 by omega) (show 500 * p2.toNat + (l6_6 + 1).toNat = 500 * p2.toNat + l6_6.toNat + 1 by omega) (show (((p2 * 500) + l6_6)).toNat = 500 * p2.toNat + l6_6.toNat by omega) (by omega) (by omega)) (by first | omega | exact CIB_0 rfl | exact CIB_p qC (show ((p4 - l6_6).toNat) = (p4 - (l6_6 + 1)).toNat + 1 by omega) (show 500 * p2.toNat + (l6_6 + 1).toNat = 500 * p2.toNat + l6_6.toNat + 1 by omega) (show (((p2 * 500) + l6_6)).toNat = 500 * p2.toNat + l6_6.toNat by omega) (by omega) (by omega) (by first | (rw [if_pos (by omega)]; done) | (rw [if_neg (by omega)]; unfold GVF; first | (rw [if_neg (by omega)]; first | (rw [if_pos (by omega)]; done) | (rw [if_neg (by omega)]; done)) | (rw [if_pos (by omega)]; done))) (fun j hj => u2_ne (fun z_ => hj z_.2)) u2_eq | exact CIB_s qC (show ((p4 - l6_6).toNat) = (p4 - (l6_6 + 1)).toNat + 1 by omega) (show 500 * p2.toNat + (l6_6 + 1).toNat = 500 * p2.toNat + l6_6.toNat + 1 by omega) (show (((p2 * 500) + l6_6)).toNat = 500 * p2.toNat + l6_6.toNat by omega) (by omega) (by omega) | exact CIB_n qC (show ((p4 - l6_6).toNat) = (p4 - (l6_6 + 1)).toNat + 1 by omega) (show 500 * p2.toNat + (l6_6 + 1).toNat = 500 * p2.toNat + l6_6.toNat + 1 by omega) (show (((p2 * 500) + l6_6)).toNat = 500 * p2.toNat + l6_6.toNat by omega) (by omega) (by omega) rfl (fun j hj => u2_ne (fun z_ => hj z_.2)) u2_eq | exact CIB_b qC (show ((p4 - l6_6).toNat) = (p4 - (l6_6 + 1)).toNat + 1 by omega) (show 500 * p2.toNat + (l6_6 + 1).toNat = 500 * p2.toNat + l6_6.toNat + 1 by omega) (show (((p2 * 500) + l6_6)).toNat = 500 * p2.toNat + l6_6.toNat by omega) (by omega) (by omega) (by omega) hI rfl (fun j hj => u2_ne (fun z_ => hj z_.2)) u2_eq | exact CIB_f qC (show ((p4 - l6_6).toNat) = (p4 - (l6_6 + 1)).toNat + 1 by omega) (show 500 * p2.toNat + (l6_6 + 1).toNat = 500 * p2.toNat + l6_6.toNat + 1 by omega) (show (((p2 * 500) + l6_6)).toNat = 500 * p2.toNat + l6_6.toNat by omega) (by omega) (by omega)) (by omega)) ⟨.inl rfl, .inl rfl, .inl rfl, .inl rfl, .inl rfl, .inl rfl, .inl rfl, .inr ⟨rfl, trivial⟩, .inl rfl, trivial⟩
                    · skip
                      refine go_to (k := 11) (pc' := 182) (L' := [some (.inr (.inr (some 71))), some (.inr (.inr (some 6))), some (.inl p2), none, some (.inl p4), some (.inl l6_5), some (.inl l6_6), some (.inl (dt 6 (((p2 * 500) + l6_6).toNat))), none]) (st' := [.inl (l6_5 - 1), .inr (.inr (some 74)), .inl (dt 6 (((p2 * 500) + l6_6).toNat)), .inl (l6_5 - 1), .inr (.inr (some 74))]) (w' := (SH, dt35)) (fun _ => rfl) ?_
                      have r58 : (-2147483648) ≤ dt35 74 ((l6_5 - 1).toNat) ∧ dt35 74 ((l6_5 - 1).toNat) ≤ 2147483647 := InvC_get hI36 74 ((l6_5 - 1).toNat) rfl rfl
                      refine go_smp (L' := [some (.inr (.inr (some 71))), some (.inr (.inr (some 6))), some (.inl p2), none, some (.inl p4), some (.inl l6_5), some (.inl l6_6), some (.inl (dt 6 (((p2 * 500) + l6_6).toNat))), none]) (st' := [.inl (dt35 74 ((l6_5 - 1).toNat)), .inl (dt 6 (((p2 * 500) + l6_6).toNat)), .inl (l6_5 - 1), .inr (.inr (some 74))]) (w' := (SH, dt35)) rfl rfl (s_iald (n := 64) (f := dt35 74) rfl ⟨by omega, by omega⟩) ?_
                      refine go_to (k := 3) (pc' := 189) (L' := [some (.inr (.inr (some 71))), some (.inr (.inr (some 6))), some (.inl p2), none, some (.inl p4), some (.inl l6_5), some (.inl l6_6), some (.inl (dt 6 (((p2 * 500) + l6_6).toNat))), none]) (st' := [.inl l6_5, .inr (.inr (some 74)), .inl (dt35 74 ((l6_5 - 1).toNat)), .inl (dt 6 (((p2 * 500) + l6_6).toNat)), .inl (l6_5 - 1), .inr (.inr (some 74))]) (w' := (SH, dt35)) (fun _ => rfl) ?_
                      have r59 : (-2147483648) ≤ dt35 74 (l6_5).toNat ∧ dt35 74 (l6_5).toNat ≤ 2147483647 := InvC_get hI36 74 (l6_5).toNat rfl rfl
                      refine go_smp (L' := [some (.inr (.inr (some 71))), some (.inr (.inr (some 6))), some (.inl p2), none, some (.inl p4), some (.inl l6_5), some (.inl l6_6), some (.inl (dt 6 (((p2 * 500) + l6_6).toNat))), none]) (st' := [.inl (dt35 74 (l6_5).toNat), .inl (dt35 74 ((l6_5 - 1).toNat)), .inl (dt 6 (((p2 * 500) + l6_6).toNat)), .inl (l6_5 - 1), .inr (.inr (some 74))]) (w' := (SH, dt35)) rfl rfl (s_iald (n := 64) (f := dt35 74) rfl ⟨by omega, by omega⟩) ?_
                      refine go_call (Q' := _) rfl rfl rfl rfl rfl (sp_X3_worked_f L xs sio (d + 0) dt35 hI36  (dt 6 (((p2 * 500) + l6_6).toNat)) ⟨by omega, by omega⟩ (dt35 74 ((l6_5 - 1).toNat)) ⟨by omega, by omega⟩ (dt35 74 (l6_5).toNat) ⟨by omega, by omega⟩ ) ?_
                      rintro _ _ ⟨rfl, h60⟩
                      refine ⟨rfl, ?_⟩
                      rcases h60 with ⟨v_h60, rfl, h60r, h60⟩
                      have r61 := wr_RR v_h60
                      have hI62 : InvC (u2 dt35 74 ((l6_5 - 1).toNat) (wr v_h60)) := InvC_u2 hI36 (lo := -2147483648) (hi := 2147483647) rfl rfl rfl (by omega) (by omega)
                      have hF63 : Fr [74] dt (u2 dt35 74 ((l6_5 - 1).toNat) (wr v_h60)) := Fr_u2 hF37 (by decide)
                      refine go_smp (L' := [some (.inr (.inr (some 71))), some (.inr (.inr (some 6))), some (.inl p2), none, some (.inl p4), some (.inl l6_5), some (.inl l6_6), some (.inl (dt 6 (((p2 * 500) + l6_6).toNat))), none]) (st' := []) (w' := (SH, (u2 dt35 74 ((l6_5 - 1).toNat) (wr v_h60)))) rfl rfl (s_iastw (n := 64) rfl ⟨by omega, by omega⟩) ?_
                      refine go_to (k := 3) (pc' := 6) (L' := [some (.inr (.inr (some 71))), some (.inr (.inr (some 6))), some (.inl p2), none, some (.inl p4), some (.inl (l6_5 + (-1))), some (.inl (l6_6 + 1)), some (.inl (dt 6 (((p2 * 500) + l6_6).toNat))), none]) (st' := []) (w' := (SH, (u2 dt35 74 ((l6_5 - 1).toNat) (wr v_h60)))) (fun _ => rfl) ?_
                      exact GO.le (ih_loop42 (l6_5 + (-1)) (l6_6 + 1) (u2 dt35 74 ((l6_5 - 1).toNat) (wr v_h60)) hI62 hF63 (by first | omega | exact CIB_0 rfl | exact CIB_p qC (show ((p4 - l6_6).toNat) = (p4 - (l6_6 + 1)).toNat + 1 by omega) (show 500 * p2.toNat + (l6_6 + 1).toNat = 500 * p2.toNat + l6_6.toNat + 1 by omega) (show (((p2 * 500) + l6_6)).toNat = 500 * p2.toNat + l6_6.toNat by omega) (by omega) (by omega) (by first | (rw [if_pos (by omega)]; done) | (rw [if_neg (by omega)]; unfold GVF; first | (rw [if_neg (by omega)]; first | (rw [if_pos (by omega)]; done) | (rw [if_neg (by omega)]; done)) | (rw [if_pos (by omega)]; done))) (fun j hj => u2_ne (fun z_ => hj z_.2)) u2_eq | exact CIB_s qC (show ((p4 - l6_6).toNat) = (p4 - (l6_6 + 1)).toNat + 1 by omega) (show 500 * p2.toNat + (l6_6 + 1).toNat = 500 * p2.toNat + l6_6.toNat + 1 by omega) (show (((p2 * 500) + l6_6)).toNat = 500 * p2.toNat + l6_6.toNat by omega) (by omega) (by omega) | exact CIB_n qC (show ((p4 - l6_6).toNat) = (p4 - (l6_6 + 1)).toNat + 1 by omega) (show 500 * p2.toNat + (l6_6 + 1).toNat = 500 * p2.toNat + l6_6.toNat + 1 by omega) (show (((p2 * 500) + l6_6)).toNat = 500 * p2.toNat + l6_6.toNat by omega) (by omega) (by omega) rfl (fun j hj => u2_ne (fun z_ => hj z_.2)) u2_eq | exact CIB_b qC (show ((p4 - l6_6).toNat) = (p4 - (l6_6 + 1)).toNat + 1 by omega) (show 500 * p2.toNat + (l6_6 + 1).toNat = 500 * p2.toNat + l6_6.toNat + 1 by omega) (show (((p2 * 500) + l6_6)).toNat = 500 * p2.toNat + l6_6.toNat by omega) (by omega) (by omega) (by omega) h60 rfl (fun j hj => u2_ne (fun z_ => hj z_.2)) u2_eq | exact CIB_f qC (show ((p4 - l6_6).toNat) = (p4 - (l6_6 + 1)).toNat + 1 by omega) (show 500 * p2.toNat + (l6_6 + 1).toNat = 500 * p2.toNat + l6_6.toNat + 1 by omega) (show (((p2 * 500) + l6_6)).toNat = 500 * p2.toNat + l6_6.toNat by omega) (by omega) (by omega)) (by first | omega | exact CIB_0 rfl | exact CIB_p qC (show ((p4 - l6_6).toNat) = (p4 - (l6_6 + 1)).toNat + 1 by omega) (show 500 * p2.toNat + (l6_6 + 1).toNat = 500 * p2.toNat + l6_6.toNat + 1 by omega) (show (((p2 * 500) + l6_6)).toNat = 500 * p2.toNat + l6_6.toNat by omega) (by omega) (by omega) (by first | (rw [if_pos (by omega)]; done) | (rw [if_neg (by omega)]; unfold GVF; first | (rw [if_neg (by omega)]; first | (rw [if_pos (by omega)]; done) | (rw [if_neg (by omega)]; done)) | (rw [if_pos (by omega)]; done))) (fun j hj => u2_ne (fun z_ => hj z_.2)) u2_eq | exact CIB_s qC (show ((p4 - l6_6).toNat) = (p4 - (l6_6 + 1)).toNat + 1 by omega) (show 500 * p2.toNat + (l6_6 + 1).toNat = 500 * p2.toNat + l6_6.toNat + 1 by omega) (show (((p2 * 500) + l6_6)).toNat = 500 * p2.toNat + l6_6.toNat by omega) (by omega) (by omega) | exact CIB_n qC (show ((p4 - l6_6).toNat) = (p4 - (l6_6 + 1)).toNat + 1 by omega) (show 500 * p2.toNat + (l6_6 + 1).toNat = 500 * p2.toNat + l6_6.toNat + 1 by omega) (show (((p2 * 500) + l6_6)).toNat = 500 * p2.toNat + l6_6.toNat by omega) (by omega) (by omega) rfl (fun j hj => u2_ne (fun z_ => hj z_.2)) u2_eq | exact CIB_b qC (show ((p4 - l6_6).toNat) = (p4 - (l6_6 + 1)).toNat + 1 by omega) (show 500 * p2.toNat + (l6_6 + 1).toNat = 500 * p2.toNat + l6_6.toNat + 1 by omega) (show (((p2 * 500) + l6_6)).toNat = 500 * p2.toNat + l6_6.toNat by omega) (by omega) (by omega) (by omega) h60 rfl (fun j hj => u2_ne (fun z_ => hj z_.2)) u2_eq | exact CIB_f qC (show ((p4 - l6_6).toNat) = (p4 - (l6_6 + 1)).toNat + 1 by omega) (show 500 * p2.toNat + (l6_6 + 1).toNat = 500 * p2.toNat + l6_6.toNat + 1 by omega) (show (((p2 * 500) + l6_6)).toNat = 500 * p2.toNat + l6_6.toNat by omega) (by omega) (by omega)) (by first | omega | exact CIB_0 rfl | exact CIB_p qC (show ((p4 - l6_6).toNat) = (p4 - (l6_6 + 1)).toNat + 1 by omega) (show 500 * p2.toNat + (l6_6 + 1).toNat = 500 * p2.toNat + l6_6.toNat + 1 by omega) (show (((p2 * 500) + l6_6)).toNat = 500 * p2.toNat + l6_6.toNat by omega) (by omega) (by omega) (by first | (rw [if_pos (by omega)]; done) | (rw [if_neg (by omega)]; unfold GVF; first | (rw [if_neg (by omega)]; first | (rw [if_pos (by omega)]; done) | (rw [if_neg (by omega)]; done)) | (rw [if_pos (by omega)]; done))) (fun j hj => u2_ne (fun z_ => hj z_.2)) u2_eq | exact CIB_s qC (show ((p4 - l6_6).toNat) = (p4 - (l6_6 + 1)).toNat + 1 by omega) (show 500 * p2.toNat + (l6_6 + 1).toNat = 500 * p2.toNat + l6_6.toNat + 1 by omega) (show (((p2 * 500) + l6_6)).toNat = 500 * p2.toNat + l6_6.toNat by omega) (by omega) (by omega) | exact CIB_n qC (show ((p4 - l6_6).toNat) = (p4 - (l6_6 + 1)).toNat + 1 by omega) (show 500 * p2.toNat + (l6_6 + 1).toNat = 500 * p2.toNat + l6_6.toNat + 1 by omega) (show (((p2 * 500) + l6_6)).toNat = 500 * p2.toNat + l6_6.toNat by omega) (by omega) (by omega) rfl (fun j hj => u2_ne (fun z_ => hj z_.2)) u2_eq | exact CIB_b qC (show ((p4 - l6_6).toNat) = (p4 - (l6_6 + 1)).toNat + 1 by omega) (show 500 * p2.toNat + (l6_6 + 1).toNat = 500 * p2.toNat + l6_6.toNat + 1 by omega) (show (((p2 * 500) + l6_6)).toNat = 500 * p2.toNat + l6_6.toNat by omega) (by omega) (by omega) (by omega) h60 rfl (fun j hj => u2_ne (fun z_ => hj z_.2)) u2_eq | exact CIB_f qC (show ((p4 - l6_6).toNat) = (p4 - (l6_6 + 1)).toNat + 1 by omega) (show 500 * p2.toNat + (l6_6 + 1).toNat = 500 * p2.toNat + l6_6.toNat + 1 by omega) (show (((p2 * 500) + l6_6)).toNat = 500 * p2.toNat + l6_6.toNat by omega) (by omega) (by omega)) (by first | omega | exact CIB_0 rfl | exact CIB_p qC (show ((p4 - l6_6).toNat) = (p4 - (l6_6 + 1)).toNat + 1 by omega) (show 500 * p2.toNat + (l6_6 + 1).toNat = 500 * p2.toNat + l6_6.toNat + 1 by omega) (show (((p2 * 500) + l6_6)).toNat = 500 * p2.toNat + l6_6.toNat by omega) (by omega) (by omega) (by first | (rw [if_pos (by omega)]; done) | (rw [if_neg (by omega)]; unfold GVF; first | (rw [if_neg (by omega)]; first | (rw [if_pos (by omega)]; done) | (rw [if_neg (by omega)]; done)) | (rw [if_pos (by omega)]; done))) (fun j hj => u2_ne (fun z_ => hj z_.2)) u2_eq | exact CIB_s qC (show ((p4 - l6_6).toNat) = (p4 - (l6_6 + 1)).toNat + 1 by omega) (show 500 * p2.toNat + (l6_6 + 1).toNat = 500 * p2.toNat + l6_6.toNat + 1 by omega) (show (((p2 * 500) + l6_6)).toNat = 500 * p2.toNat + l6_6.toNat by omega) (by omega) (by omega) | exact CIB_n qC (show ((p4 - l6_6).toNat) = (p4 - (l6_6 + 1)).toNat + 1 by omega) (show 500 * p2.toNat + (l6_6 + 1).toNat = 500 * p2.toNat + l6_6.toNat + 1 by omega) (show (((p2 * 500) + l6_6)).toNat = 500 * p2.toNat + l6_6.toNat by omega) (by omega) (by omega) rfl (fun j hj => u2_ne (fun z_ => hj z_.2)) u2_eq | exact CIB_b qC (show ((p4 - l6_6).toNat) = (p4 - (l6_6 + 1)).toNat + 1 by omega) (show 500 * p2.toNat + (l6_6 + 1).toNat = 500 * p2.toNat + l6_6.toNat + 1 by omega) (show (((p2 * 500) + l6_6)).toNat = 500 * p2.toNat + l6_6.toNat by omega) (by omega) (by omega) (by omega) h60 rfl (fun j hj => u2_ne (fun z_ => hj z_.2)) u2_eq | exact CIB_f qC (show ((p4 - l6_6).toNat) = (p4 - (l6_6 + 1)).toNat + 1 by omega) (show 500 * p2.toNat + (l6_6 + 1).toNat = 500 * p2.toNat + l6_6.toNat + 1 by omega) (show (((p2 * 500) + l6_6)).toNat = 500 * p2.toNat + l6_6.toNat by omega) (by omega) (by omega)) (by omega)) ⟨.inl rfl, .inl rfl, .inl rfl, .inl rfl, .inl rfl, .inl rfl, .inl rfl, .inr ⟨rfl, trivial⟩, .inl rfl, trivial⟩
                  · skip
                    refine go_if (k := 2) (p1 := 158) (p2 := 139) (L' := [some (.inr (.inr (some 71))), some (.inr (.inr (some 6))), some (.inl p2), none, some (.inl p4), some (.inl l6_5), some (.inl l6_6), some (.inl (dt 6 (((p2 * 500) + l6_6).toNat))), none]) (st' := []) (w' := (SH, dt35)) (fun _ => rfl) (z_lt (a := l6_5) ⟨by omega, by omega⟩) (fun c64 => ?_) (fun c64 => ?_)
                    · skip
                      refine go_if (k := 3) (p1 := 197) (p2 := 164) (L' := [some (.inr (.inr (some 71))), some (.inr (.inr (some 6))), some (.inl p2), none, some (.inl p4), some (.inl l6_5), some (.inl l6_6), some (.inl (dt 6 (((p2 * 500) + l6_6).toNat))), none]) (st' := []) (w' := (SH, dt35)) (fun _ => rfl) (c_lt (a := l6_5) (b := 1) ⟨by omega, by omega⟩ ⟨by omega, by omega⟩) (fun c65 => ?_) (fun c65 => ?_)
                      · skip
                        refine go_to (k := 2) (pc' := 6) (L' := [some (.inr (.inr (some 71))), some (.inr (.inr (some 6))), some (.inl p2), none, some (.inl p4), some (.inl l6_5), some (.inl (l6_6 + 1)), some (.inl (dt 6 (((p2 * 500) + l6_6).toNat))), none]) (st' := []) (w' := (SH, dt35)) (fun _ => rfl) ?_
                        exact GO.le (ih_loop42 l6_5 (l6_6 + 1) dt35 hI36 hF37 (by first | omega | exact CIB_0 rfl | exact CIB_p qC (show ((p4 - l6_6).toNat) = (p4 - (l6_6 + 1)).toNat + 1 by omega) (show 500 * p2.toNat + (l6_6 + 1).toNat = 500 * p2.toNat + l6_6.toNat + 1 by omega) (show (((p2 * 500) + l6_6)).toNat = 500 * p2.toNat + l6_6.toNat by omega) (by omega) (by omega) (by first | (rw [if_pos (by omega)]; done) | (rw [if_neg (by omega)]; unfold GVF; first | (rw [if_neg (by omega)]; first | (rw [if_pos (by omega)]; done) | (rw [if_neg (by omega)]; done)) | (rw [if_pos (by omega)]; done))) (fun j hj => u2_ne (fun z_ => hj z_.2)) u2_eq | exact CIB_s qC (show ((p4 - l6_6).toNat) = (p4 - (l6_6 + 1)).toNat + 1 by omega) (show 500 * p2.toNat + (l6_6 + 1).toNat = 500 * p2.toNat + l6_6.toNat + 1 by omega) (show (((p2 * 500) + l6_6)).toNat = 500 * p2.toNat + l6_6.toNat by omega) (by omega) (by omega) | exact CIB_n qC (show ((p4 - l6_6).toNat) = (p4 - (l6_6 + 1)).toNat + 1 by omega) (show 500 * p2.toNat + (l6_6 + 1).toNat = 500 * p2.toNat + l6_6.toNat + 1 by omega) (show (((p2 * 500) + l6_6)).toNat = 500 * p2.toNat + l6_6.toNat by omega) (by omega) (by omega) rfl (fun j hj => u2_ne (fun z_ => hj z_.2)) u2_eq | exact CIB_b qC (show ((p4 - l6_6).toNat) = (p4 - (l6_6 + 1)).toNat + 1 by omega) (show 500 * p2.toNat + (l6_6 + 1).toNat = 500 * p2.toNat + l6_6.toNat + 1 by omega) (show (((p2 * 500) + l6_6)).toNat = 500 * p2.toNat + l6_6.toNat by omega) (by omega) (by omega) (by omega) hI rfl (fun j hj => u2_ne (fun z_ => hj z_.2)) u2_eq | exact CIB_f qC (show ((p4 - l6_6).toNat) = (p4 - (l6_6 + 1)).toNat + 1 by omega) (show 500 * p2.toNat + (l6_6 + 1).toNat = 500 * p2.toNat + l6_6.toNat + 1 by omega) (show (((p2 * 500) + l6_6)).toNat = 500 * p2.toNat + l6_6.toNat by omega) (by omega) (by omega)) (by first | omega | exact CIB_0 rfl | exact CIB_p qC (show ((p4 - l6_6).toNat) = (p4 - (l6_6 + 1)).toNat + 1 by omega) (show 500 * p2.toNat + (l6_6 + 1).toNat = 500 * p2.toNat + l6_6.toNat + 1 by omega) (show (((p2 * 500) + l6_6)).toNat = 500 * p2.toNat + l6_6.toNat by omega) (by omega) (by omega) (by first | (rw [if_pos (by omega)]; done) | (rw [if_neg (by omega)]; unfold GVF; first | (rw [if_neg (by omega)]; first | (rw [if_pos (by omega)]; done) | (rw [if_neg (by omega)]; done)) | (rw [if_pos (by omega)]; done))) (fun j hj => u2_ne (fun z_ => hj z_.2)) u2_eq | exact CIB_s qC (show ((p4 - l6_6).toNat) = (p4 - (l6_6 + 1)).toNat + 1 by omega) (show 500 * p2.toNat + (l6_6 + 1).toNat = 500 * p2.toNat + l6_6.toNat + 1 by omega) (show (((p2 * 500) + l6_6)).toNat = 500 * p2.toNat + l6_6.toNat by omega) (by omega) (by omega) | exact CIB_n qC (show ((p4 - l6_6).toNat) = (p4 - (l6_6 + 1)).toNat + 1 by omega) (show 500 * p2.toNat + (l6_6 + 1).toNat = 500 * p2.toNat + l6_6.toNat + 1 by omega) (show (((p2 * 500) + l6_6)).toNat = 500 * p2.toNat + l6_6.toNat by omega) (by omega) (by omega) rfl (fun j hj => u2_ne (fun z_ => hj z_.2)) u2_eq | exact CIB_b qC (show ((p4 - l6_6).toNat) = (p4 - (l6_6 + 1)).toNat + 1 by omega) (show 500 * p2.toNat + (l6_6 + 1).toNat = 500 * p2.toNat + l6_6.toNat + 1 by omega) (show (((p2 * 500) + l6_6)).toNat = 500 * p2.toNat + l6_6.toNat by omega) (by omega) (by omega) (by omega) hI rfl (fun j hj => u2_ne (fun z_ => hj z_.2)) u2_eq | exact CIB_f qC (show ((p4 - l6_6).toNat) = (p4 - (l6_6 + 1)).toNat + 1 by omega) (show 500 * p2.toNat + (l6_6 + 1).toNat = 500 * p2.toNat + l6_6.toNat + 1 by omega) (show (((p2 * 500) + l6_6)).toNat = 500 * p2.toNat + l6_6.toNat by omega) (by omega) (by omega)) (by first | omega | exact CIB_0 rfl | exact CIB_p qC (show ((p4 - l6_6).toNat) = (p4 - (l6_6 + 1)).toNat + 1 by omega) (show 500 * p2.toNat + (l6_6 + 1).toNat = 500 * p2.toNat + l6_6.toNat + 1 by omega) (show (((p2 * 500) + l6_6)).toNat = 500 * p2.toNat + l6_6.toNat by omega) (by omega) (by omega) (by first | (rw [if_pos (by omega)]; done) | (rw [if_neg (by omega)]; unfold GVF; first | (rw [if_neg (by omega)]; first | (rw [if_pos (by omega)]; done) | (rw [if_neg (by omega)]; done)) | (rw [if_pos (by omega)]; done))) (fun j hj => u2_ne (fun z_ => hj z_.2)) u2_eq | exact CIB_s qC (show ((p4 - l6_6).toNat) = (p4 - (l6_6 + 1)).toNat + 1 by omega) (show 500 * p2.toNat + (l6_6 + 1).toNat = 500 * p2.toNat + l6_6.toNat + 1 by omega) (show (((p2 * 500) + l6_6)).toNat = 500 * p2.toNat + l6_6.toNat by omega) (by omega) (by omega) | exact CIB_n qC (show ((p4 - l6_6).toNat) = (p4 - (l6_6 + 1)).toNat + 1 by omega) (show 500 * p2.toNat + (l6_6 + 1).toNat = 500 * p2.toNat + l6_6.toNat + 1 by omega) (show (((p2 * 500) + l6_6)).toNat = 500 * p2.toNat + l6_6.toNat by omega) (by omega) (by omega) rfl (fun j hj => u2_ne (fun z_ => hj z_.2)) u2_eq | exact CIB_b qC (show ((p4 - l6_6).toNat) = (p4 - (l6_6 + 1)).toNat + 1 by omega) (show 500 * p2.toNat + (l6_6 + 1).toNat = 500 * p2.toNat + l6_6.toNat + 1 by omega) (show (((p2 * 500) + l6_6)).toNat = 500 * p2.toNat + l6_6.toNat by omega) (by omega) (by omega) (by omega) hI rfl (fun j hj => u2_ne (fun z_ => hj z_.2)) u2_eq | exact CIB_f qC (show ((p4 - l6_6).toNat) = (p4 - (l6_6 + 1)).toNat + 1 by omega) (show 500 * p2.toNat + (l6_6 + 1).toNat = 500 * p2.toNat + l6_6.toNat + 1 by omega) (show (((p2 * 500) + l6_6)).toNat = 500 * p2.toNat + l6_6.toNat by omega) (by omega) (by omega)) (by first | omega | exact CIB_0 rfl | exact CIB_p qC (show ((p4 - l6_6).toNat) = (p4 - (l6_6 + 1)).toNat + 1 by omega) (show 500 * p2.toNat + (l6_6 + 1).toNat = 500 * p2.toNat + l6_6.toNat + 1 by omega) (show (((p2 * 500) + l6_6)).toNat = 500 * p2.toNat + l6_6.toNat by omega) (by omega) (by omega) (by first | (rw [if_pos (by omega)]; done) | (rw [if_neg (by omega)]; unfold GVF; first | (rw [if_neg (by omega)]; first | (rw [if_pos (by omega)]; done) | (rw [if_neg (by omega)]; done)) | (rw [if_pos (by omega)]; done))) (fun j hj => u2_ne (fun z_ => hj z_.2)) u2_eq | exact CIB_s qC (show ((p4 - l6_6).toNat) = (p4 - (l6_6 + 1)).toNat + 1 by omega) (show 500 * p2.toNat + (l6_6 + 1).toNat = 500 * p2.toNat + l6_6.toNat + 1 by omega) (show (((p2 * 500) + l6_6)).toNat = 500 * p2.toNat + l6_6.toNat by omega) (by omega) (by omega) | exact CIB_n qC (show ((p4 - l6_6).toNat) = (p4 - (l6_6 + 1)).toNat + 1 by omega) (show 500 * p2.toNat + (l6_6 + 1).toNat = 500 * p2.toNat + l6_6.toNat + 1 by omega) (show (((p2 * 500) + l6_6)).toNat = 500 * p2.toNat + l6_6.toNat by omega) (by omega) (by omega) rfl (fun j hj => u2_ne (fun z_ => hj z_.2)) u2_eq | exact CIB_b qC (show ((p4 - l6_6).toNat) = (p4 - (l6_6 + 1)).toNat + 1 by omega) (show 500 * p2.toNat + (l6_6 + 1).toNat = 500 * p2.toNat + l6_6.toNat + 1 by omega) (show (((p2 * 500) + l6_6)).toNat = 500 * p2.toNat + l6_6.toNat by omega) (by omega) (by omega) (by omega) hI rfl (fun j hj => u2_ne (fun z_ => hj z_.2)) u2_eq | exact CIB_f qC (show ((p4 - l6_6).toNat) = (p4 - (l6_6 + 1)).toNat + 1 by omega) (show 500 * p2.toNat + (l6_6 + 1).toNat = 500 * p2.toNat + l6_6.toNat + 1 by omega) (show (((p2 * 500) + l6_6)).toNat = 500 * p2.toNat + l6_6.toNat by omega) (by omega) (by omega)) (by omega)) ⟨.inl rfl, .inl rfl, .inl rfl, .inl rfl, .inl rfl, .inl rfl, .inl rfl, .inr ⟨rfl, trivial⟩, .inl rfl, trivial⟩
                      · exfalso; omega
                    · skip
                      refine go_to (k := 7) (pc' := 152) (L' := [some (.inr (.inr (some 71))), some (.inr (.inr (some 6))), some (.inl p2), none, some (.inl p4), some (.inl l6_5), some (.inl l6_6), some (.inl (dt 6 (((p2 * 500) + l6_6).toNat))), none]) (st' := [.inl l6_5, .inr (.inr (some 74)), .inl 1, .inl l6_5, .inr (.inr (some 74))]) (w' := (SH, dt35)) (fun _ => rfl) ?_
                      have r66 : (-2147483648) ≤ dt35 74 (l6_5).toNat ∧ dt35 74 (l6_5).toNat ≤ 2147483647 := InvC_get hI36 74 (l6_5).toNat rfl rfl
                      refine go_smp (L' := [some (.inr (.inr (some 71))), some (.inr (.inr (some 6))), some (.inl p2), none, some (.inl p4), some (.inl l6_5), some (.inl l6_6), some (.inl (dt 6 (((p2 * 500) + l6_6).toNat))), none]) (st' := [.inl (dt35 74 (l6_5).toNat), .inl 1, .inl l6_5, .inr (.inr (some 74))]) (w' := (SH, dt35)) rfl rfl (s_iald (n := 64) (f := dt35 74) rfl ⟨by omega, by omega⟩) ?_
                      refine go_to (k := 1) (pc' := 154) (L' := [some (.inr (.inr (some 71))), some (.inr (.inr (some 6))), some (.inl p2), none, some (.inl p4), some (.inl l6_5), some (.inl l6_6), some (.inl (dt 6 (((p2 * 500) + l6_6).toNat))), none]) (st' := [.inl (1 - (dt35 74 (l6_5).toNat)), .inl l6_5, .inr (.inr (some 74))]) (w' := (SH, dt35)) (fun _ => rfl) ?_
                      have r67 := wr_RR (1 - (dt35 74 (l6_5).toNat))
                      have hI68 : InvC (u2 dt35 74 (l6_5).toNat (wr (1 - (dt35 74 (l6_5).toNat)))) := InvC_u2 hI36 (lo := -2147483648) (hi := 2147483647) rfl rfl rfl (by omega) (by omega)
                      have hF69 : Fr [74] dt (u2 dt35 74 (l6_5).toNat (wr (1 - (dt35 74 (l6_5).toNat)))) := Fr_u2 hF37 (by decide)
                      refine go_smp (L' := [some (.inr (.inr (some 71))), some (.inr (.inr (some 6))), some (.inl p2), none, some (.inl p4), some (.inl l6_5), some (.inl l6_6), some (.inl (dt 6 (((p2 * 500) + l6_6).toNat))), none]) (st' := []) (w' := (SH, (u2 dt35 74 (l6_5).toNat (wr (1 - (dt35 74 (l6_5).toNat)))))) rfl rfl (s_iastw (n := 64) rfl ⟨by omega, by omega⟩) ?_
                      refine go_to (k := 3) (pc' := 6) (L' := [some (.inr (.inr (some 71))), some (.inr (.inr (some 6))), some (.inl p2), none, some (.inl p4), some (.inl l6_5), some (.inl (l6_6 + 1)), some (.inl (dt 6 (((p2 * 500) + l6_6).toNat))), none]) (st' := []) (w' := (SH, (u2 dt35 74 (l6_5).toNat (wr (1 - (dt35 74 (l6_5).toNat)))))) (fun _ => rfl) ?_
                      exact GO.le (ih_loop42 l6_5 (l6_6 + 1) (u2 dt35 74 (l6_5).toNat (wr (1 - (dt35 74 (l6_5).toNat)))) hI68 hF69 (by first | omega | exact CIB_0 rfl | exact CIB_p qC (show ((p4 - l6_6).toNat) = (p4 - (l6_6 + 1)).toNat + 1 by omega) (show 500 * p2.toNat + (l6_6 + 1).toNat = 500 * p2.toNat + l6_6.toNat + 1 by omega) (show (((p2 * 500) + l6_6)).toNat = 500 * p2.toNat + l6_6.toNat by omega) (by omega) (by omega) (by first | (rw [if_pos (by omega)]; done) | (rw [if_neg (by omega)]; unfold GVF; first | (rw [if_neg (by omega)]; first | (rw [if_pos (by omega)]; done) | (rw [if_neg (by omega)]; done)) | (rw [if_pos (by omega)]; done))) (fun j hj => u2_ne (fun z_ => hj z_.2)) u2_eq | exact CIB_s qC (show ((p4 - l6_6).toNat) = (p4 - (l6_6 + 1)).toNat + 1 by omega) (show 500 * p2.toNat + (l6_6 + 1).toNat = 500 * p2.toNat + l6_6.toNat + 1 by omega) (show (((p2 * 500) + l6_6)).toNat = 500 * p2.toNat + l6_6.toNat by omega) (by omega) (by omega) | exact CIB_n qC (show ((p4 - l6_6).toNat) = (p4 - (l6_6 + 1)).toNat + 1 by omega) (show 500 * p2.toNat + (l6_6 + 1).toNat = 500 * p2.toNat + l6_6.toNat + 1 by omega) (show (((p2 * 500) + l6_6)).toNat = 500 * p2.toNat + l6_6.toNat by omega) (by omega) (by omega) rfl (fun j hj => u2_ne (fun z_ => hj z_.2)) u2_eq | exact CIB_b qC (show ((p4 - l6_6).toNat) = (p4 - (l6_6 + 1)).toNat + 1 by omega) (show 500 * p2.toNat + (l6_6 + 1).toNat = 500 * p2.toNat + l6_6.toNat + 1 by omega) (show (((p2 * 500) + l6_6)).toNat = 500 * p2.toNat + l6_6.toNat by omega) (by omega) (by omega) (by omega) hI rfl (fun j hj => u2_ne (fun z_ => hj z_.2)) u2_eq | exact CIB_f qC (show ((p4 - l6_6).toNat) = (p4 - (l6_6 + 1)).toNat + 1 by omega) (show 500 * p2.toNat + (l6_6 + 1).toNat = 500 * p2.toNat + l6_6.toNat + 1 by omega) (show (((p2 * 500) + l6_6)).toNat = 500 * p2.toNat + l6_6.toNat by omega) (by omega) (by omega)) (by first | omega | exact CIB_0 rfl | exact CIB_p qC (show ((p4 - l6_6).toNat) = (p4 - (l6_6 + 1)).toNat + 1 by omega) (show 500 * p2.toNat + (l6_6 + 1).toNat = 500 * p2.toNat + l6_6.toNat + 1 by omega) (show (((p2 * 500) + l6_6)).toNat = 500 * p2.toNat + l6_6.toNat by omega) (by omega) (by omega) (by first | (rw [if_pos (by omega)]; done) | (rw [if_neg (by omega)]; unfold GVF; first | (rw [if_neg (by omega)]; first | (rw [if_pos (by omega)]; done) | (rw [if_neg (by omega)]; done)) | (rw [if_pos (by omega)]; done))) (fun j hj => u2_ne (fun z_ => hj z_.2)) u2_eq | exact CIB_s qC (show ((p4 - l6_6).toNat) = (p4 - (l6_6 + 1)).toNat + 1 by omega) (show 500 * p2.toNat + (l6_6 + 1).toNat = 500 * p2.toNat + l6_6.toNat + 1 by omega) (show (((p2 * 500) + l6_6)).toNat = 500 * p2.toNat + l6_6.toNat by omega) (by omega) (by omega) | exact CIB_n qC (show ((p4 - l6_6).toNat) = (p4 - (l6_6 + 1)).toNat + 1 by omega) (show 500 * p2.toNat + (l6_6 + 1).toNat = 500 * p2.toNat + l6_6.toNat + 1 by omega) (show (((p2 * 500) + l6_6)).toNat = 500 * p2.toNat + l6_6.toNat by omega) (by omega) (by omega) rfl (fun j hj => u2_ne (fun z_ => hj z_.2)) u2_eq | exact CIB_b qC (show ((p4 - l6_6).toNat) = (p4 - (l6_6 + 1)).toNat + 1 by omega) (show 500 * p2.toNat + (l6_6 + 1).toNat = 500 * p2.toNat + l6_6.toNat + 1 by omega) (show (((p2 * 500) + l6_6)).toNat = 500 * p2.toNat + l6_6.toNat by omega) (by omega) (by omega) (by omega) hI rfl (fun j hj => u2_ne (fun z_ => hj z_.2)) u2_eq | exact CIB_f qC (show ((p4 - l6_6).toNat) = (p4 - (l6_6 + 1)).toNat + 1 by omega) (show 500 * p2.toNat + (l6_6 + 1).toNat = 500 * p2.toNat + l6_6.toNat + 1 by omega) (show (((p2 * 500) + l6_6)).toNat = 500 * p2.toNat + l6_6.toNat by omega) (by omega) (by omega)) (by first | omega | exact CIB_0 rfl | exact CIB_p qC (show ((p4 - l6_6).toNat) = (p4 - (l6_6 + 1)).toNat + 1 by omega) (show 500 * p2.toNat + (l6_6 + 1).toNat = 500 * p2.toNat + l6_6.toNat + 1 by omega) (show (((p2 * 500) + l6_6)).toNat = 500 * p2.toNat + l6_6.toNat by omega) (by omega) (by omega) (by first | (rw [if_pos (by omega)]; done) | (rw [if_neg (by omega)]; unfold GVF; first | (rw [if_neg (by omega)]; first | (rw [if_pos (by omega)]; done) | (rw [if_neg (by omega)]; done)) | (rw [if_pos (by omega)]; done))) (fun j hj => u2_ne (fun z_ => hj z_.2)) u2_eq | exact CIB_s qC (show ((p4 - l6_6).toNat) = (p4 - (l6_6 + 1)).toNat + 1 by omega) (show 500 * p2.toNat + (l6_6 + 1).toNat = 500 * p2.toNat + l6_6.toNat + 1 by omega) (show (((p2 * 500) + l6_6)).toNat = 500 * p2.toNat + l6_6.toNat by omega) (by omega) (by omega) | exact CIB_n qC (show ((p4 - l6_6).toNat) = (p4 - (l6_6 + 1)).toNat + 1 by omega) (show 500 * p2.toNat + (l6_6 + 1).toNat = 500 * p2.toNat + l6_6.toNat + 1 by omega) (show (((p2 * 500) + l6_6)).toNat = 500 * p2.toNat + l6_6.toNat by omega) (by omega) (by omega) rfl (fun j hj => u2_ne (fun z_ => hj z_.2)) u2_eq | exact CIB_b qC (show ((p4 - l6_6).toNat) = (p4 - (l6_6 + 1)).toNat + 1 by omega) (show 500 * p2.toNat + (l6_6 + 1).toNat = 500 * p2.toNat + l6_6.toNat + 1 by omega) (show (((p2 * 500) + l6_6)).toNat = 500 * p2.toNat + l6_6.toNat by omega) (by omega) (by omega) (by omega) hI rfl (fun j hj => u2_ne (fun z_ => hj z_.2)) u2_eq | exact CIB_f qC (show ((p4 - l6_6).toNat) = (p4 - (l6_6 + 1)).toNat + 1 by omega) (show 500 * p2.toNat + (l6_6 + 1).toNat = 500 * p2.toNat + l6_6.toNat + 1 by omega) (show (((p2 * 500) + l6_6)).toNat = 500 * p2.toNat + l6_6.toNat by omega) (by omega) (by omega)) (by first | omega | exact CIB_0 rfl | exact CIB_p qC (show ((p4 - l6_6).toNat) = (p4 - (l6_6 + 1)).toNat + 1 by omega) (show 500 * p2.toNat + (l6_6 + 1).toNat = 500 * p2.toNat + l6_6.toNat + 1 by omega) (show (((p2 * 500) + l6_6)).toNat = 500 * p2.toNat + l6_6.toNat by omega) (by omega) (by omega) (by first | (rw [if_pos (by omega)]; done) | (rw [if_neg (by omega)]; unfold GVF; first | (rw [if_neg (by omega)]; first | (rw [if_pos (by omega)]; done) | (rw [if_neg (by omega)]; done)) | (rw [if_pos (by omega)]; done))) (fun j hj => u2_ne (fun z_ => hj z_.2)) u2_eq | exact CIB_s qC (show ((p4 - l6_6).toNat) = (p4 - (l6_6 + 1)).toNat + 1 by omega) (show 500 * p2.toNat + (l6_6 + 1).toNat = 500 * p2.toNat + l6_6.toNat + 1 by omega) (show (((p2 * 500) + l6_6)).toNat = 500 * p2.toNat + l6_6.toNat by omega) (by omega) (by omega) | exact CIB_n qC (show ((p4 - l6_6).toNat) = (p4 - (l6_6 + 1)).toNat + 1 by omega) (show 500 * p2.toNat + (l6_6 + 1).toNat = 500 * p2.toNat + l6_6.toNat + 1 by omega) (show (((p2 * 500) + l6_6)).toNat = 500 * p2.toNat + l6_6.toNat by omega) (by omega) (by omega) rfl (fun j hj => u2_ne (fun z_ => hj z_.2)) u2_eq | exact CIB_b qC (show ((p4 - l6_6).toNat) = (p4 - (l6_6 + 1)).toNat + 1 by omega) (show 500 * p2.toNat + (l6_6 + 1).toNat = 500 * p2.toNat + l6_6.toNat + 1 by omega) (show (((p2 * 500) + l6_6)).toNat = 500 * p2.toNat + l6_6.toNat by omega) (by omega) (by omega) (by omega) hI rfl (fun j hj => u2_ne (fun z_ => hj z_.2)) u2_eq | exact CIB_f qC (show ((p4 - l6_6).toNat) = (p4 - (l6_6 + 1)).toNat + 1 by omega) (show 500 * p2.toNat + (l6_6 + 1).toNat = 500 * p2.toNat + l6_6.toNat + 1 by omega) (show (((p2 * 500) + l6_6)).toNat = 500 * p2.toNat + l6_6.toNat by omega) (by omega) (by omega)) (by omega)) ⟨.inl rfl, .inl rfl, .inl rfl, .inl rfl, .inl rfl, .inl rfl, .inl rfl, .inr ⟨rfl, trivial⟩, .inl rfl, trivial⟩
                · skip
                  refine go_if (k := 11) (p1 := 124) (p2 := 86) (L' := [some (.inr (.inr (some 71))), some (.inr (.inr (some 6))), some (.inl p2), none, some (.inl p4), some (.inl l6_5), some (.inl l6_6), some (.inl (dt 6 (((p2 * 500) + l6_6).toNat))), some (.inl ((-11) - (dt 6 (((p2 * 500) + l6_6).toNat))))]) (st' := []) (w' := (SH, dt35)) (fun _ => rfl) (c_ge (a := l6_5 + 1) (b := 64) ⟨by omega, by omega⟩ ⟨by omega, by omega⟩) (fun c70 => ?_) (fun c70 => ?_)
                  · skip
                    refine go_to (k := 3) (pc' := 6) (L' := [some (.inr (.inr (some 71))), some (.inr (.inr (some 6))), some (.inl p2), none, some (.inl p4), some (.inl l6_5), some (.inl (l6_6 + 1)), some (.inl (dt 6 (((p2 * 500) + l6_6).toNat))), some (.inl ((-11) - (dt 6 (((p2 * 500) + l6_6).toNat))))]) (st' := []) (w' := (SH, dt35)) (fun _ => rfl) ?_
                    exact GO.le (ih_loop42 l6_5 (l6_6 + 1) dt35 hI36 hF37 (by first | omega | exact CIB_0 rfl | exact CIB_p qC (show ((p4 - l6_6).toNat) = (p4 - (l6_6 + 1)).toNat + 1 by omega) (show 500 * p2.toNat + (l6_6 + 1).toNat = 500 * p2.toNat + l6_6.toNat + 1 by omega) (show (((p2 * 500) + l6_6)).toNat = 500 * p2.toNat + l6_6.toNat by omega) (by omega) (by omega) (by first | (rw [if_pos (by omega)]; done) | (rw [if_neg (by omega)]; unfold GVF; first | (rw [if_neg (by omega)]; first | (rw [if_pos (by omega)]; done) | (rw [if_neg (by omega)]; done)) | (rw [if_pos (by omega)]; done))) (fun j hj => u2_ne (fun z_ => hj z_.2)) u2_eq | exact CIB_s qC (show ((p4 - l6_6).toNat) = (p4 - (l6_6 + 1)).toNat + 1 by omega) (show 500 * p2.toNat + (l6_6 + 1).toNat = 500 * p2.toNat + l6_6.toNat + 1 by omega) (show (((p2 * 500) + l6_6)).toNat = 500 * p2.toNat + l6_6.toNat by omega) (by omega) (by omega) | exact CIB_n qC (show ((p4 - l6_6).toNat) = (p4 - (l6_6 + 1)).toNat + 1 by omega) (show 500 * p2.toNat + (l6_6 + 1).toNat = 500 * p2.toNat + l6_6.toNat + 1 by omega) (show (((p2 * 500) + l6_6)).toNat = 500 * p2.toNat + l6_6.toNat by omega) (by omega) (by omega) rfl (fun j hj => u2_ne (fun z_ => hj z_.2)) u2_eq | exact CIB_b qC (show ((p4 - l6_6).toNat) = (p4 - (l6_6 + 1)).toNat + 1 by omega) (show 500 * p2.toNat + (l6_6 + 1).toNat = 500 * p2.toNat + l6_6.toNat + 1 by omega) (show (((p2 * 500) + l6_6)).toNat = 500 * p2.toNat + l6_6.toNat by omega) (by omega) (by omega) (by omega) hI rfl (fun j hj => u2_ne (fun z_ => hj z_.2)) u2_eq | exact CIB_f qC (show ((p4 - l6_6).toNat) = (p4 - (l6_6 + 1)).toNat + 1 by omega) (show 500 * p2.toNat + (l6_6 + 1).toNat = 500 * p2.toNat + l6_6.toNat + 1 by omega) (show (((p2 * 500) + l6_6)).toNat = 500 * p2.toNat + l6_6.toNat by omega) (by omega) (by omega)) (by first | omega | exact CIB_0 rfl | exact CIB_p qC (show ((p4 - l6_6).toNat) = (p4 - (l6_6 + 1)).toNat + 1 by omega) (show 500 * p2.toNat + (l6_6 + 1).toNat = 500 * p2.toNat + l6_6.toNat + 1 by omega) (show (((p2 * 500) + l6_6)).toNat = 500 * p2.toNat + l6_6.toNat by omega) (by omega) (by omega) (by first | (rw [if_pos (by omega)]; done) | (rw [if_neg (by omega)]; unfold GVF; first | (rw [if_neg (by omega)]; first | (rw [if_pos (by omega)]; done) | (rw [if_neg (by omega)]; done)) | (rw [if_pos (by omega)]; done))) (fun j hj => u2_ne (fun z_ => hj z_.2)) u2_eq | exact CIB_s qC (show ((p4 - l6_6).toNat) = (p4 - (l6_6 + 1)).toNat + 1 by omega) (show 500 * p2.toNat + (l6_6 + 1).toNat = 500 * p2.toNat + l6_6.toNat + 1 by omega) (show (((p2 * 500) + l6_6)).toNat = 500 * p2.toNat + l6_6.toNat by omega) (by omega) (by omega) | exact CIB_n qC (show ((p4 - l6_6).toNat) = (p4 - (l6_6 + 1)).toNat + 1 by omega) (show 500 * p2.toNat + (l6_6 + 1).toNat = 500 * p2.toNat + l6_6.toNat + 1 by omega) (show (((p2 * 500) + l6_6)).toNat = 500 * p2.toNat + l6_6.toNat by omega) (by omega) (by omega) rfl (fun j hj => u2_ne (fun z_ => hj z_.2)) u2_eq | exact CIB_b qC (show ((p4 - l6_6).toNat) = (p4 - (l6_6 + 1)).toNat + 1 by omega) (show 500 * p2.toNat + (l6_6 + 1).toNat = 500 * p2.toNat + l6_6.toNat + 1 by omega) (show (((p2 * 500) + l6_6)).toNat = 500 * p2.toNat + l6_6.toNat by omega) (by omega) (by omega) (by omega) hI rfl (fun j hj => u2_ne (fun z_ => hj z_.2)) u2_eq | exact CIB_f qC (show ((p4 - l6_6).toNat) = (p4 - (l6_6 + 1)).toNat + 1 by omega) (show 500 * p2.toNat + (l6_6 + 1).toNat = 500 * p2.toNat + l6_6.toNat + 1 by omega) (show (((p2 * 500) + l6_6)).toNat = 500 * p2.toNat + l6_6.toNat by omega) (by omega) (by omega)) (by first | omega | exact CIB_0 rfl | exact CIB_p qC (show ((p4 - l6_6).toNat) = (p4 - (l6_6 + 1)).toNat + 1 by omega) (show 500 * p2.toNat + (l6_6 + 1).toNat = 500 * p2.toNat + l6_6.toNat + 1 by omega) (show (((p2 * 500) + l6_6)).toNat = 500 * p2.toNat + l6_6.toNat by omega) (by omega) (by omega) (by first | (rw [if_pos (by omega)]; done) | (rw [if_neg (by omega)]; unfold GVF; first | (rw [if_neg (by omega)]; first | (rw [if_pos (by omega)]; done) | (rw [if_neg (by omega)]; done)) | (rw [if_pos (by omega)]; done))) (fun j hj => u2_ne (fun z_ => hj z_.2)) u2_eq | exact CIB_s qC (show ((p4 - l6_6).toNat) = (p4 - (l6_6 + 1)).toNat + 1 by omega) (show 500 * p2.toNat + (l6_6 + 1).toNat = 500 * p2.toNat + l6_6.toNat + 1 by omega) (show (((p2 * 500) + l6_6)).toNat = 500 * p2.toNat + l6_6.toNat by omega) (by omega) (by omega) | exact CIB_n qC (show ((p4 - l6_6).toNat) = (p4 - (l6_6 + 1)).toNat + 1 by omega) (show 500 * p2.toNat + (l6_6 + 1).toNat = 500 * p2.toNat + l6_6.toNat + 1 by omega) (show (((p2 * 500) + l6_6)).toNat = 500 * p2.toNat + l6_6.toNat by omega) (by omega) (by omega) rfl (fun j hj => u2_ne (fun z_ => hj z_.2)) u2_eq | exact CIB_b qC (show ((p4 - l6_6).toNat) = (p4 - (l6_6 + 1)).toNat + 1 by omega) (show 500 * p2.toNat + (l6_6 + 1).toNat = 500 * p2.toNat + l6_6.toNat + 1 by omega) (show (((p2 * 500) + l6_6)).toNat = 500 * p2.toNat + l6_6.toNat by omega) (by omega) (by omega) (by omega) hI rfl (fun j hj => u2_ne (fun z_ => hj z_.2)) u2_eq | exact CIB_f qC (show ((p4 - l6_6).toNat) = (p4 - (l6_6 + 1)).toNat + 1 by omega) (show 500 * p2.toNat + (l6_6 + 1).toNat = 500 * p2.toNat + l6_6.toNat + 1 by omega) (show (((p2 * 500) + l6_6)).toNat = 500 * p2.toNat + l6_6.toNat by omega) (by omega) (by omega)) (by first | omega | exact CIB_0 rfl | exact CIB_p qC (show ((p4 - l6_6).toNat) = (p4 - (l6_6 + 1)).toNat + 1 by omega) (show 500 * p2.toNat + (l6_6 + 1).toNat = 500 * p2.toNat + l6_6.toNat + 1 by omega) (show (((p2 * 500) + l6_6)).toNat = 500 * p2.toNat + l6_6.toNat by omega) (by omega) (by omega) (by first | (rw [if_pos (by omega)]; done) | (rw [if_neg (by omega)]; unfold GVF; first | (rw [if_neg (by omega)]; first | (rw [if_pos (by omega)]; done) | (rw [if_neg (by omega)]; done)) | (rw [if_pos (by omega)]; done))) (fun j hj => u2_ne (fun z_ => hj z_.2)) u2_eq | exact CIB_s qC (show ((p4 - l6_6).toNat) = (p4 - (l6_6 + 1)).toNat + 1 by omega) (show 500 * p2.toNat + (l6_6 + 1).toNat = 500 * p2.toNat + l6_6.toNat + 1 by omega) (show (((p2 * 500) + l6_6)).toNat = 500 * p2.toNat + l6_6.toNat by omega) (by omega) (by omega) | exact CIB_n qC (show ((p4 - l6_6).toNat) = (p4 - (l6_6 + 1)).toNat + 1 by omega) (show 500 * p2.toNat + (l6_6 + 1).toNat = 500 * p2.toNat + l6_6.toNat + 1 by omega) (show (((p2 * 500) + l6_6)).toNat = 500 * p2.toNat + l6_6.toNat by omega) (by omega) (by omega) rfl (fun j hj => u2_ne (fun z_ => hj z_.2)) u2_eq | exact CIB_b qC (show ((p4 - l6_6).toNat) = (p4 - (l6_6 + 1)).toNat + 1 by omega) (show 500 * p2.toNat + (l6_6 + 1).toNat = 500 * p2.toNat + l6_6.toNat + 1 by omega) (show (((p2 * 500) + l6_6)).toNat = 500 * p2.toNat + l6_6.toNat by omega) (by omega) (by omega) (by omega) hI rfl (fun j hj => u2_ne (fun z_ => hj z_.2)) u2_eq | exact CIB_f qC (show ((p4 - l6_6).toNat) = (p4 - (l6_6 + 1)).toNat + 1 by omega) (show 500 * p2.toNat + (l6_6 + 1).toNat = 500 * p2.toNat + l6_6.toNat + 1 by omega) (show (((p2 * 500) + l6_6)).toNat = 500 * p2.toNat + l6_6.toNat by omega) (by omega) (by omega)) (by omega)) ⟨.inl rfl, .inl rfl, .inl rfl, .inl rfl, .inl rfl, .inl rfl, .inl rfl, .inr ⟨rfl, trivial⟩, .inr ⟨rfl, trivial⟩, trivial⟩
                  · skip
                    refine go_if (k := 6) (p1 := 105) (p2 := 100) (L' := [some (.inr (.inr (some 71))), some (.inr (.inr (some 6))), some (.inl p2), none, some (.inl p4), some (.inl (l6_5 + 1)), some (.inl l6_6), some (.inl (dt 6 (((p2 * 500) + l6_6).toNat))), some (.inl ((-11) - (dt 6 (((p2 * 500) + l6_6).toNat))))]) (st' := [.inl (l6_5 + 1), .inr (.inr (some 74))]) (w' := (SH, dt35)) (fun _ => rfl) (z_lt (a := dt 6 (((p2 * 500) + l6_6).toNat)) ⟨by omega, by omega⟩) (fun c71 => ?_) (fun c71 => ?_)
                    · skip
                      refine go_if (k := 3) (p1 := 122) (p2 := 112) (L' := [some (.inr (.inr (some 71))), some (.inr (.inr (some 6))), some (.inl p2), none, some (.inl p4), some (.inl (l6_5 + 1)), some (.inl l6_6), some (.inl (dt 6 (((p2 * 500) + l6_6).toNat))), some (.inl ((-11) - (dt 6 (((p2 * 500) + l6_6).toNat))))]) (st' := [.inl (l6_5 + 1), .inr (.inr (some 74))]) (w' := (SH, dt35)) (fun _ => rfl) (c_ge (a := (-11) - (dt 6 (((p2 * 500) + l6_6).toNat))) (b := 6) ⟨by omega, by omega⟩ ⟨by omega, by omega⟩) (fun c72 => ?_) (fun c72 => ?_)
                      · skip
                        refine go_to (k := 1) (pc' := 123) (L' := [some (.inr (.inr (some 71))), some (.inr (.inr (some 6))), some (.inl p2), none, some (.inl p4), some (.inl (l6_5 + 1)), some (.inl l6_6), some (.inl (dt 6 (((p2 * 500) + l6_6).toNat))), some (.inl ((-11) - (dt 6 (((p2 * 500) + l6_6).toNat))))]) (st' := [.inl 0, .inl (l6_5 + 1), .inr (.inr (some 74))]) (w' := (SH, dt35)) (fun _ => rfl) ?_
                        have hI73 : InvC (u2 dt35 74 ((l6_5 + 1).toNat) 0) := InvC_u2 hI36 (lo := -2147483648) (hi := 2147483647) rfl rfl rfl (by omega) (by omega)
                        have hF74 : Fr [74] dt (u2 dt35 74 ((l6_5 + 1).toNat) 0) := Fr_u2 hF37 (by decide)
                        refine go_smp (L' := [some (.inr (.inr (some 71))), some (.inr (.inr (some 6))), some (.inl p2), none, some (.inl p4), some (.inl (l6_5 + 1)), some (.inl l6_6), some (.inl (dt 6 (((p2 * 500) + l6_6).toNat))), some (.inl ((-11) - (dt 6 (((p2 * 500) + l6_6).toNat))))]) (st' := []) (w' := (SH, (u2 dt35 74 ((l6_5 + 1).toNat) 0))) rfl rfl (s_iast (n := 64) rfl ⟨by omega, by omega⟩ ⟨by omega, by omega⟩) ?_
                        refine go_to (k := 3) (pc' := 6) (L' := [some (.inr (.inr (some 71))), some (.inr (.inr (some 6))), some (.inl p2), none, some (.inl p4), some (.inl (l6_5 + 1)), some (.inl (l6_6 + 1)), some (.inl (dt 6 (((p2 * 500) + l6_6).toNat))), some (.inl ((-11) - (dt 6 (((p2 * 500) + l6_6).toNat))))]) (st' := []) (w' := (SH, (u2 dt35 74 ((l6_5 + 1).toNat) 0))) (fun _ => rfl) ?_
                        exact GO.le (ih_loop42 (l6_5 + 1) (l6_6 + 1) (u2 dt35 74 ((l6_5 + 1).toNat) 0) hI73 hF74 (by first | omega | exact CIB_0 rfl | exact CIB_p qC (show ((p4 - l6_6).toNat) = (p4 - (l6_6 + 1)).toNat + 1 by omega) (show 500 * p2.toNat + (l6_6 + 1).toNat = 500 * p2.toNat + l6_6.toNat + 1 by omega) (show (((p2 * 500) + l6_6)).toNat = 500 * p2.toNat + l6_6.toNat by omega) (by omega) (by omega) (by first | (rw [if_pos (by omega)]; done) | (rw [if_neg (by omega)]; unfold GVF; first | (rw [if_neg (by omega)]; first | (rw [if_pos (by omega)]; done) | (rw [if_neg (by omega)]; done)) | (rw [if_pos (by omega)]; done))) (fun j hj => u2_ne (fun z_ => hj z_.2)) u2_eq | exact CIB_s qC (show ((p4 - l6_6).toNat) = (p4 - (l6_6 + 1)).toNat + 1 by omega) (show 500 * p2.toNat + (l6_6 + 1).toNat = 500 * p2.toNat + l6_6.toNat + 1 by omega) (show (((p2 * 500) + l6_6)).toNat = 500 * p2.toNat + l6_6.toNat by omega) (by omega) (by omega) | exact CIB_n qC (show ((p4 - l6_6).toNat) = (p4 - (l6_6 + 1)).toNat + 1 by omega) (show 500 * p2.toNat + (l6_6 + 1).toNat = 500 * p2.toNat + l6_6.toNat + 1 by omega) (show (((p2 * 500) + l6_6)).toNat = 500 * p2.toNat + l6_6.toNat by omega) (by omega) (by omega) rfl (fun j hj => u2_ne (fun z_ => hj z_.2)) u2_eq | exact CIB_b qC (show ((p4 - l6_6).toNat) = (p4 - (l6_6 + 1)).toNat + 1 by omega) (show 500 * p2.toNat + (l6_6 + 1).toNat = 500 * p2.toNat + l6_6.toNat + 1 by omega) (show (((p2 * 500) + l6_6)).toNat = 500 * p2.toNat + l6_6.toNat by omega) (by omega) (by omega) (by omega) hI rfl (fun j hj => u2_ne (fun z_ => hj z_.2)) u2_eq | exact CIB_f qC (show ((p4 - l6_6).toNat) = (p4 - (l6_6 + 1)).toNat + 1 by omega) (show 500 * p2.toNat + (l6_6 + 1).toNat = 500 * p2.toNat + l6_6.toNat + 1 by omega) (show (((p2 * 500) + l6_6)).toNat = 500 * p2.toNat + l6_6.toNat by omega) (by omega) (by omega)) (by first | omega | exact CIB_0 rfl | exact CIB_p qC (show ((p4 - l6_6).toNat) = (p4 - (l6_6 + 1)).toNat + 1 by omega) (show 500 * p2.toNat + (l6_6 + 1).toNat = 500 * p2.toNat + l6_6.toNat + 1 by omega) (show (((p2 * 500) + l6_6)).toNat = 500 * p2.toNat + l6_6.toNat by omega) (by omega) (by omega) (by first | (rw [if_pos (by omega)]; done) | (rw [if_neg (by omega)]; unfold GVF; first | (rw [if_neg (by omega)]; first | (rw [if_pos (by omega)]; done) | (rw [if_neg (by omega)]; done)) | (rw [if_pos (by omega)]; done))) (fun j hj => u2_ne (fun z_ => hj z_.2)) u2_eq | exact CIB_s qC (show ((p4 - l6_6).toNat) = (p4 - (l6_6 + 1)).toNat + 1 by omega) (show 500 * p2.toNat + (l6_6 + 1).toNat = 500 * p2.toNat + l6_6.toNat + 1 by omega) (show (((p2 * 500) + l6_6)).toNat = 500 * p2.toNat + l6_6.toNat by omega) (by omega) (by omega) | exact CIB_n qC (show ((p4 - l6_6).toNat) = (p4 - (l6_6 + 1)).toNat + 1 by omega) (show 500 * p2.toNat + (l6_6 + 1).toNat = 500 * p2.toNat + l6_6.toNat + 1 by omega) (show (((p2 * 500) + l6_6)).toNat = 500 * p2.toNat + l6_6.toNat by omega) (by omega) (by omega) rfl (fun j hj => u2_ne (fun z_ => hj z_.2)) u2_eq | exact CIB_b qC (show ((p4 - l6_6).toNat) = (p4 - (l6_6 + 1)).toNat + 1 by omega) (show 500 * p2.toNat + (l6_6 + 1).toNat = 500 * p2.toNat + l6_6.toNat + 1 by omega) (show (((p2 * 500) + l6_6)).toNat = 500 * p2.toNat + l6_6.toNat by omega) (by omega) (by omega) (by omega) hI rfl (fun j hj => u2_ne (fun z_ => hj z_.2)) u2_eq | exact CIB_f qC (show ((p4 - l6_6).toNat) = (p4 - (l6_6 + 1)).toNat + 1 by omega) (show 500 * p2.toNat + (l6_6 + 1).toNat = 500 * p2.toNat + l6_6.toNat + 1 by omega) (show (((p2 * 500) + l6_6)).toNat = 500 * p2.toNat + l6_6.toNat by omega) (by omega) (by omega)) (by first | omega | exact CIB_0 rfl | exact CIB_p qC (show ((p4 - l6_6).toNat) = (p4 - (l6_6 + 1)).toNat + 1 by omega) (show 500 * p2.toNat + (l6_6 + 1).toNat = 500 * p2.toNat + l6_6.toNat + 1 by omega) (show (((p2 * 500) + l6_6)).toNat = 500 * p2.toNat + l6_6.toNat by omega) (by omega) (by omega) (by first | (rw [if_pos (by omega)]; done) | (rw [if_neg (by omega)]; unfold GVF; first | (rw [if_neg (by omega)]; first | (rw [if_pos (by omega)]; done) | (rw [if_neg (by omega)]; done)) | (rw [if_pos (by omega)]; done))) (fun j hj => u2_ne (fun z_ => hj z_.2)) u2_eq | exact CIB_s qC (show ((p4 - l6_6).toNat) = (p4 - (l6_6 + 1)).toNat + 1 by omega) (show 500 * p2.toNat + (l6_6 + 1).toNat = 500 * p2.toNat + l6_6.toNat + 1 by omega) (show (((p2 * 500) + l6_6)).toNat = 500 * p2.toNat + l6_6.toNat by omega) (by omega) (by omega) | exact CIB_n qC (show ((p4 - l6_6).toNat) = (p4 - (l6_6 + 1)).toNat + 1 by omega) (show 500 * p2.toNat + (l6_6 + 1).toNat = 500 * p2.toNat + l6_6.toNat + 1 by omega) (show (((p2 * 500) + l6_6)).toNat = 500 * p2.toNat + l6_6.toNat by omega) (by omega) (by omega) rfl (fun j hj => u2_ne (fun z_ => hj z_.2)) u2_eq | exact CIB_b qC (show ((p4 - l6_6).toNat) = (p4 - (l6_6 + 1)).toNat + 1 by omega) (show 500 * p2.toNat + (l6_6 + 1).toNat = 500 * p2.toNat + l6_6.toNat + 1 by omega) (show (((p2 * 500) + l6_6)).toNat = 500 * p2.toNat + l6_6.toNat by omega) (by omega) (by omega) (by omega) hI rfl (fun j hj => u2_ne (fun z_ => hj z_.2)) u2_eq | exact CIB_f qC (show ((p4 - l6_6).toNat) = (p4 - (l6_6 + 1)).toNat + 1 by omega) (show 500 * p2.toNat + (l6_6 + 1).toNat = 500 * p2.toNat + l6_6.toNat + 1 by omega) (show (((p2 * 500) + l6_6)).toNat = 500 * p2.toNat + l6_6.toNat by omega) (by omega) (by omega)) (by first | omega | exact CIB_0 rfl | exact CIB_p qC (show ((p4 - l6_6).toNat) = (p4 - (l6_6 + 1)).toNat + 1 by omega) (show 500 * p2.toNat + (l6_6 + 1).toNat = 500 * p2.toNat + l6_6.toNat + 1 by omega) (show (((p2 * 500) + l6_6)).toNat = 500 * p2.toNat + l6_6.toNat by omega) (by omega) (by omega) (by first | (rw [if_pos (by omega)]; done) | (rw [if_neg (by omega)]; unfold GVF; first | (rw [if_neg (by omega)]; first | (rw [if_pos (by omega)]; done) | (rw [if_neg (by omega)]; done)) | (rw [if_pos (by omega)]; done))) (fun j hj => u2_ne (fun z_ => hj z_.2)) u2_eq | exact CIB_s qC (show ((p4 - l6_6).toNat) = (p4 - (l6_6 + 1)).toNat + 1 by omega) (show 500 * p2.toNat + (l6_6 + 1).toNat = 500 * p2.toNat + l6_6.toNat + 1 by omega) (show (((p2 * 500) + l6_6)).toNat = 500 * p2.toNat + l6_6.toNat by omega) (by omega) (by omega) | exact CIB_n qC (show ((p4 - l6_6).toNat) = (p4 - (l6_6 + 1)).toNat + 1 by omega) (show 500 * p2.toNat + (l6_6 + 1).toNat = 500 * p2.toNat + l6_6.toNat + 1 by omega) (show (((p2 * 500) + l6_6)).toNat = 500 * p2.toNat + l6_6.toNat by omega) (by omega) (by omega) rfl (fun j hj => u2_ne (fun z_ => hj z_.2)) u2_eq | exact CIB_b qC (show ((p4 - l6_6).toNat) = (p4 - (l6_6 + 1)).toNat + 1 by omega) (show 500 * p2.toNat + (l6_6 + 1).toNat = 500 * p2.toNat + l6_6.toNat + 1 by omega) (show (((p2 * 500) + l6_6)).toNat = 500 * p2.toNat + l6_6.toNat by omega) (by omega) (by omega) (by omega) hI rfl (fun j hj => u2_ne (fun z_ => hj z_.2)) u2_eq | exact CIB_f qC (show ((p4 - l6_6).toNat) = (p4 - (l6_6 + 1)).toNat + 1 by omega) (show 500 * p2.toNat + (l6_6 + 1).toNat = 500 * p2.toNat + l6_6.toNat + 1 by omega) (show (((p2 * 500) + l6_6)).toNat = 500 * p2.toNat + l6_6.toNat by omega) (by omega) (by omega)) (by omega)) ⟨.inl rfl, .inl rfl, .inl rfl, .inl rfl, .inl rfl, .inl rfl, .inl rfl, .inr ⟨rfl, trivial⟩, .inr ⟨rfl, trivial⟩, trivial⟩
                      · skip
                        refine go_to (k := 3) (pc' := 118) (L' := [some (.inr (.inr (some 71))), some (.inr (.inr (some 6))), some (.inl p2), none, some (.inl p4), some (.inl (l6_5 + 1)), some (.inl l6_6), some (.inl (dt 6 (((p2 * 500) + l6_6).toNat))), some (.inl ((-11) - (dt 6 (((p2 * 500) + l6_6).toNat))))]) (st' := [.inl ((-11) - (dt 6 (((p2 * 500) + l6_6).toNat))), .inr (.inr (some 73)), .inl (l6_5 + 1), .inr (.inr (some 74))]) (w' := (SH, dt35)) (fun _ => rfl) ?_
                        have r75 : (-2147483648) ≤ dt 73 (((-11) - (dt 6 (((p2 * 500) + l6_6).toNat))).toNat) ∧ dt 73 (((-11) - (dt 6 (((p2 * 500) + l6_6).toNat))).toNat) ≤ 2147483647 := InvC_get hI 73 (((-11) - (dt 6 (((p2 * 500) + l6_6).toNat))).toNat) rfl rfl
                        refine go_smp (L' := [some (.inr (.inr (some 71))), some (.inr (.inr (some 6))), some (.inl p2), none, some (.inl p4), some (.inl (l6_5 + 1)), some (.inl l6_6), some (.inl (dt 6 (((p2 * 500) + l6_6).toNat))), some (.inl ((-11) - (dt 6 (((p2 * 500) + l6_6).toNat))))]) (st' := [.inl (dt 73 (((-11) - (dt 6 (((p2 * 500) + l6_6).toNat))).toNat)), .inl (l6_5 + 1), .inr (.inr (some 74))]) (w' := (SH, dt35)) rfl rfl (s_ev (s_iald (n := 6) (f := dt35 73) rfl ⟨by omega, by omega⟩) (hF37 73 (by decide) _)) ?_
                        refine go_to (k := 1) (pc' := 123) (L' := [some (.inr (.inr (some 71))), some (.inr (.inr (some 6))), some (.inl p2), none, some (.inl p4), some (.inl (l6_5 + 1)), some (.inl l6_6), some (.inl (dt 6 (((p2 * 500) + l6_6).toNat))), some (.inl ((-11) - (dt 6 (((p2 * 500) + l6_6).toNat))))]) (st' := [.inl (dt 73 (((-11) - (dt 6 (((p2 * 500) + l6_6).toNat))).toNat)), .inl (l6_5 + 1), .inr (.inr (some 74))]) (w' := (SH, dt35)) (fun _ => rfl) ?_
                        have hI76 : InvC (u2 dt35 74 ((l6_5 + 1).toNat) (dt 73 (((-11) - (dt 6 (((p2 * 500) + l6_6).toNat))).toNat))) := InvC_u2 hI36 (lo := -2147483648) (hi := 2147483647) rfl rfl rfl (by omega) (by omega)
                        have hF77 : Fr [74] dt (u2 dt35 74 ((l6_5 + 1).toNat) (dt 73 (((-11) - (dt 6 (((p2 * 500) + l6_6).toNat))).toNat))) := Fr_u2 hF37 (by decide)
                        refine go_smp (L' := [some (.inr (.inr (some 71))), some (.inr (.inr (some 6))), some (.inl p2), none, some (.inl p4), some (.inl (l6_5 + 1)), some (.inl l6_6), some (.inl (dt 6 (((p2 * 500) + l6_6).toNat))), some (.inl ((-11) - (dt 6 (((p2 * 500) + l6_6).toNat))))]) (st' := []) (w' := (SH, (u2 dt35 74 ((l6_5 + 1).toNat) (dt 73 (((-11) - (dt 6 (((p2 * 500) + l6_6).toNat))).toNat))))) rfl rfl (s_iast (n := 64) rfl ⟨by omega, by omega⟩ ⟨by omega, by omega⟩) ?_
                        refine go_to (k := 3) (pc' := 6) (L' := [some (.inr (.inr (some 71))), some (.inr (.inr (some 6))), some (.inl p2), none, some (.inl p4), some (.inl (l6_5 + 1)), some (.inl (l6_6 + 1)), some (.inl (dt 6 (((p2 * 500) + l6_6).toNat))), some (.inl ((-11) - (dt 6 (((p2 * 500) + l6_6).toNat))))]) (st' := []) (w' := (SH, (u2 dt35 74 ((l6_5 + 1).toNat) (dt 73 (((-11) - (dt 6 (((p2 * 500) + l6_6).toNat))).toNat))))) (fun _ => rfl) ?_
                        exact GO.le (ih_loop42 (l6_5 + 1) (l6_6 + 1) (u2 dt35 74 ((l6_5 + 1).toNat) (dt 73 (((-11) - (dt 6 (((p2 * 500) + l6_6).toNat))).toNat))) hI76 hF77 (by first | omega | exact CIB_0 rfl | exact CIB_p qC (show ((p4 - l6_6).toNat) = (p4 - (l6_6 + 1)).toNat + 1 by omega) (show 500 * p2.toNat + (l6_6 + 1).toNat = 500 * p2.toNat + l6_6.toNat + 1 by omega) (show (((p2 * 500) + l6_6)).toNat = 500 * p2.toNat + l6_6.toNat by omega) (by omega) (by omega) (by first | (rw [if_pos (by omega)]; done) | (rw [if_neg (by omega)]; unfold GVF; first | (rw [if_neg (by omega)]; first | (rw [if_pos (by omega)]; done) | (rw [if_neg (by omega)]; done)) | (rw [if_pos (by omega)]; done))) (fun j hj => u2_ne (fun z_ => hj z_.2)) u2_eq | exact CIB_s qC (show ((p4 - l6_6).toNat) = (p4 - (l6_6 + 1)).toNat + 1 by omega) (show 500 * p2.toNat + (l6_6 + 1).toNat = 500 * p2.toNat + l6_6.toNat + 1 by omega) (show (((p2 * 500) + l6_6)).toNat = 500 * p2.toNat + l6_6.toNat by omega) (by omega) (by omega) | exact CIB_n qC (show ((p4 - l6_6).toNat) = (p4 - (l6_6 + 1)).toNat + 1 by omega) (show 500 * p2.toNat + (l6_6 + 1).toNat = 500 * p2.toNat + l6_6.toNat + 1 by omega) (show (((p2 * 500) + l6_6)).toNat = 500 * p2.toNat + l6_6.toNat by omega) (by omega) (by omega) rfl (fun j hj => u2_ne (fun z_ => hj z_.2)) u2_eq | exact CIB_b qC (show ((p4 - l6_6).toNat) = (p4 - (l6_6 + 1)).toNat + 1 by omega) (show 500 * p2.toNat + (l6_6 + 1).toNat = 500 * p2.toNat + l6_6.toNat + 1 by omega) (show (((p2 * 500) + l6_6)).toNat = 500 * p2.toNat + l6_6.toNat by omega) (by omega) (by omega) (by omega) hI rfl (fun j hj => u2_ne (fun z_ => hj z_.2)) u2_eq | exact CIB_f qC (show ((p4 - l6_6).toNat) = (p4 - (l6_6 + 1)).toNat + 1 by omega) (show 500 * p2.toNat + (l6_6 + 1).toNat = 500 * p2.toNat + l6_6.toNat + 1 by omega) (show (((p2 * 500) + l6_6)).toNat = 500 * p2.toNat + l6_6.toNat by omega) (by omega) (by omega)) (by first | omega | exact CIB_0 rfl | exact CIB_p qC (show ((p4 - l6_6).toNat) = (p4 - (l6_6 + 1)).toNat + 1 by omega) (show 500 * p2.toNat + (l6_6 + 1).toNat = 500 * p2.toNat + l6_6.toNat + 1 by omega) (show (((p2 * 500) + l6_6)).toNat = 500 * p2.toNat + l6_6.toNat by omega) (by omega) (by omega) (by first | (rw [if_pos (by omega)]; done) | (rw [if_neg (by omega)]; unfold GVF; first | (rw [if_neg (by omega)]; first | (rw [if_pos (by omega)]; done) | (rw [if_neg (by omega)]; done)) | (rw [if_pos (by omega)]; done))) (fun j hj => u2_ne (fun z_ => hj z_.2)) u2_eq | exact CIB_s qC (show ((p4 - l6_6).toNat) = (p4 - (l6_6 + 1)).toNat + 1 by omega) (show 500 * p2.toNat + (l6_6 + 1).toNat = 500 * p2.toNat + l6_6.toNat + 1 by omega) (show (((p2 * 500) + l6_6)).toNat = 500 * p2.toNat + l6_6.toNat by omega) (by omega) (by omega) | exact CIB_n qC (show ((p4 - l6_6).toNat) = (p4 - (l6_6 + 1)).toNat + 1 by omega) (show 500 * p2.toNat + (l6_6 + 1).toNat = 500 * p2.toNat + l6_6.toNat + 1 by omega) (show (((p2 * 500) + l6_6)).toNat = 500 * p2.toNat + l6_6.toNat by omega) (by omega) (by omega) rfl (fun j hj => u2_ne (fun z_ => hj z_.2)) u2_eq | exact CIB_b qC (show ((p4 - l6_6).toNat) = (p4 - (l6_6 + 1)).toNat + 1 by omega) (show 500 * p2.toNat + (l6_6 + 1).toNat = 500 * p2.toNat + l6_6.toNat + 1 by omega) (show (((p2 * 500) + l6_6)).toNat = 500 * p2.toNat + l6_6.toNat by omega) (by omega) (by omega) (by omega) hI rfl (fun j hj => u2_ne (fun z_ => hj z_.2)) u2_eq | exact CIB_f qC (show ((p4 - l6_6).toNat) = (p4 - (l6_6 + 1)).toNat + 1 by omega) (show 500 * p2.toNat + (l6_6 + 1).toNat = 500 * p2.toNat + l6_6.toNat + 1 by omega) (show (((p2 * 500) + l6_6)).toNat = 500 * p2.toNat + l6_6.toNat by omega) (by omega) (by omega)) (by first | omega | exact CIB_0 rfl | exact CIB_p qC (show ((p4 - l6_6).toNat) = (p4 - (l6_6 + 1)).toNat + 1 by omega) (show 500 * p2.toNat + (l6_6 + 1).toNat = 500 * p2.toNat + l6_6.toNat + 1 by omega) (show (((p2 * 500) + l6_6)).toNat = 500 * p2.toNat + l6_6.toNat by omega) (by omega) (by omega) (by first | (rw [if_pos (by omega)]; done) | (rw [if_neg (by omega)]; unfold GVF; first | (rw [if_neg (by omega)]; first | (rw [if_pos (by omega)]; done) | (rw [if_neg (by omega)]; done)) | (rw [if_pos (by omega)]; done))) (fun j hj => u2_ne (fun z_ => hj z_.2)) u2_eq | exact CIB_s qC (show ((p4 - l6_6).toNat) = (p4 - (l6_6 + 1)).toNat + 1 by omega) (show 500 * p2.toNat + (l6_6 + 1).toNat = 500 * p2.toNat + l6_6.toNat + 1 by omega) (show (((p2 * 500) + l6_6)).toNat = 500 * p2.toNat + l6_6.toNat by omega) (by omega) (by omega) | exact CIB_n qC (show ((p4 - l6_6).toNat) = (p4 - (l6_6 + 1)).toNat + 1 by omega) (show 500 * p2.toNat + (l6_6 + 1).toNat = 500 * p2.toNat + l6_6.toNat + 1 by omega) (show (((p2 * 500) + l6_6)).toNat = 500 * p2.toNat + l6_6.toNat by omega) (by omega) (by omega) rfl (fun j hj => u2_ne (fun z_ => hj z_.2)) u2_eq | exact CIB_b qC (show ((p4 - l6_6).toNat) = (p4 - (l6_6 + 1)).toNat + 1 by omega) (show 500 * p2.toNat + (l6_6 + 1).toNat = 500 * p2.toNat + l6_6.toNat + 1 by omega) (show (((p2 * 500) + l6_6)).toNat = 500 * p2.toNat + l6_6.toNat by omega) (by omega) (by omega) (by omega) hI rfl (fun j hj => u2_ne (fun z_ => hj z_.2)) u2_eq | exact CIB_f qC (show ((p4 - l6_6).toNat) = (p4 - (l6_6 + 1)).toNat + 1 by omega) (show 500 * p2.toNat + (l6_6 + 1).toNat = 500 * p2.toNat + l6_6.toNat + 1 by omega) (show (((p2 * 500) + l6_6)).toNat = 500 * p2.toNat + l6_6.toNat by omega) (by omega) (by omega)) (by first | omega | exact CIB_0 rfl | exact CIB_p qC (show ((p4 - l6_6).toNat) = (p4 - (l6_6 + 1)).toNat + 1 by omega) (show 500 * p2.toNat + (l6_6 + 1).toNat = 500 * p2.toNat + l6_6.toNat + 1 by omega) (show (((p2 * 500) + l6_6)).toNat = 500 * p2.toNat + l6_6.toNat by omega) (by omega) (by omega) (by first | (rw [if_pos (by omega)]; done) | (rw [if_neg (by omega)]; unfold GVF; first | (rw [if_neg (by omega)]; first | (rw [if_pos (by omega)]; done) | (rw [if_neg (by omega)]; done)) | (rw [if_pos (by omega)]; done))) (fun j hj => u2_ne (fun z_ => hj z_.2)) u2_eq | exact CIB_s qC (show ((p4 - l6_6).toNat) = (p4 - (l6_6 + 1)).toNat + 1 by omega) (show 500 * p2.toNat + (l6_6 + 1).toNat = 500 * p2.toNat + l6_6.toNat + 1 by omega) (show (((p2 * 500) + l6_6)).toNat = 500 * p2.toNat + l6_6.toNat by omega) (by omega) (by omega) | exact CIB_n qC (show ((p4 - l6_6).toNat) = (p4 - (l6_6 + 1)).toNat + 1 by omega) (show 500 * p2.toNat + (l6_6 + 1).toNat = 500 * p2.toNat + l6_6.toNat + 1 by omega) (show (((p2 * 500) + l6_6)).toNat = 500 * p2.toNat + l6_6.toNat by omega) (by omega) (by omega) rfl (fun j hj => u2_ne (fun z_ => hj z_.2)) u2_eq | exact CIB_b qC (show ((p4 - l6_6).toNat) = (p4 - (l6_6 + 1)).toNat + 1 by omega) (show 500 * p2.toNat + (l6_6 + 1).toNat = 500 * p2.toNat + l6_6.toNat + 1 by omega) (show (((p2 * 500) + l6_6)).toNat = 500 * p2.toNat + l6_6.toNat by omega) (by omega) (by omega) (by omega) hI rfl (fun j hj => u2_ne (fun z_ => hj z_.2)) u2_eq | exact CIB_f qC (show ((p4 - l6_6).toNat) = (p4 - (l6_6 + 1)).toNat + 1 by omega) (show 500 * p2.toNat + (l6_6 + 1).toNat = 500 * p2.toNat + l6_6.toNat + 1 by omega) (show (((p2 * 500) + l6_6)).toNat = 500 * p2.toNat + l6_6.toNat by omega) (by omega) (by omega)) (by omega)) ⟨.inl rfl, .inl rfl, .inl rfl, .inl rfl, .inl rfl, .inl rfl, .inl rfl, .inr ⟨rfl, trivial⟩, .inr ⟨rfl, trivial⟩, trivial⟩
                    · exfalso; omega
  exact GO.le (loop42 _ (-1) p3 dt hI hF (by first | omega | exact CIB_0 rfl | exact CIB_p qC (show ((p4 - l6_6).toNat) = (p4 - (l6_6 + 1)).toNat + 1 by omega) (show 500 * p2.toNat + (l6_6 + 1).toNat = 500 * p2.toNat + l6_6.toNat + 1 by omega) (show (((p2 * 500) + l6_6)).toNat = 500 * p2.toNat + l6_6.toNat by omega) (by omega) (by omega) (by first | (rw [if_pos (by omega)]; done) | (rw [if_neg (by omega)]; unfold GVF; first | (rw [if_neg (by omega)]; first | (rw [if_pos (by omega)]; done) | (rw [if_neg (by omega)]; done)) | (rw [if_pos (by omega)]; done))) (fun j hj => u2_ne (fun z_ => hj z_.2)) u2_eq | exact CIB_s qC (show ((p4 - l6_6).toNat) = (p4 - (l6_6 + 1)).toNat + 1 by omega) (show 500 * p2.toNat + (l6_6 + 1).toNat = 500 * p2.toNat + l6_6.toNat + 1 by omega) (show (((p2 * 500) + l6_6)).toNat = 500 * p2.toNat + l6_6.toNat by omega) (by omega) (by omega) | exact CIB_n qC (show ((p4 - l6_6).toNat) = (p4 - (l6_6 + 1)).toNat + 1 by omega) (show 500 * p2.toNat + (l6_6 + 1).toNat = 500 * p2.toNat + l6_6.toNat + 1 by omega) (show (((p2 * 500) + l6_6)).toNat = 500 * p2.toNat + l6_6.toNat by omega) (by omega) (by omega) rfl (fun j hj => u2_ne (fun z_ => hj z_.2)) u2_eq | exact CIB_b qC (show ((p4 - l6_6).toNat) = (p4 - (l6_6 + 1)).toNat + 1 by omega) (show 500 * p2.toNat + (l6_6 + 1).toNat = 500 * p2.toNat + l6_6.toNat + 1 by omega) (show (((p2 * 500) + l6_6)).toNat = 500 * p2.toNat + l6_6.toNat by omega) (by omega) (by omega) (by omega) hI rfl (fun j hj => u2_ne (fun z_ => hj z_.2)) u2_eq | exact CIB_f qC (show ((p4 - l6_6).toNat) = (p4 - (l6_6 + 1)).toNat + 1 by omega) (show 500 * p2.toNat + (l6_6 + 1).toNat = 500 * p2.toNat + l6_6.toNat + 1 by omega) (show (((p2 * 500) + l6_6)).toNat = 500 * p2.toNat + l6_6.toNat by omega) (by omega) (by omega)) (by first | omega | exact CIB_0 rfl | exact CIB_p qC (show ((p4 - l6_6).toNat) = (p4 - (l6_6 + 1)).toNat + 1 by omega) (show 500 * p2.toNat + (l6_6 + 1).toNat = 500 * p2.toNat + l6_6.toNat + 1 by omega) (show (((p2 * 500) + l6_6)).toNat = 500 * p2.toNat + l6_6.toNat by omega) (by omega) (by omega) (by first | (rw [if_pos (by omega)]; done) | (rw [if_neg (by omega)]; unfold GVF; first | (rw [if_neg (by omega)]; first | (rw [if_pos (by omega)]; done) | (rw [if_neg (by omega)]; done)) | (rw [if_pos (by omega)]; done))) (fun j hj => u2_ne (fun z_ => hj z_.2)) u2_eq | exact CIB_s qC (show ((p4 - l6_6).toNat) = (p4 - (l6_6 + 1)).toNat + 1 by omega) (show 500 * p2.toNat + (l6_6 + 1).toNat = 500 * p2.toNat + l6_6.toNat + 1 by omega) (show (((p2 * 500) + l6_6)).toNat = 500 * p2.toNat + l6_6.toNat by omega) (by omega) (by omega) | exact CIB_n qC (show ((p4 - l6_6).toNat) = (p4 - (l6_6 + 1)).toNat + 1 by omega) (show 500 * p2.toNat + (l6_6 + 1).toNat = 500 * p2.toNat + l6_6.toNat + 1 by omega) (show (((p2 * 500) + l6_6)).toNat = 500 * p2.toNat + l6_6.toNat by omega) (by omega) (by omega) rfl (fun j hj => u2_ne (fun z_ => hj z_.2)) u2_eq | exact CIB_b qC (show ((p4 - l6_6).toNat) = (p4 - (l6_6 + 1)).toNat + 1 by omega) (show 500 * p2.toNat + (l6_6 + 1).toNat = 500 * p2.toNat + l6_6.toNat + 1 by omega) (show (((p2 * 500) + l6_6)).toNat = 500 * p2.toNat + l6_6.toNat by omega) (by omega) (by omega) (by omega) hI rfl (fun j hj => u2_ne (fun z_ => hj z_.2)) u2_eq | exact CIB_f qC (show ((p4 - l6_6).toNat) = (p4 - (l6_6 + 1)).toNat + 1 by omega) (show 500 * p2.toNat + (l6_6 + 1).toNat = 500 * p2.toNat + l6_6.toNat + 1 by omega) (show (((p2 * 500) + l6_6)).toNat = 500 * p2.toNat + l6_6.toNat by omega) (by omega) (by omega)) (by first | omega | exact CIB_0 rfl | exact CIB_p qC (show ((p4 - l6_6).toNat) = (p4 - (l6_6 + 1)).toNat + 1 by omega) (show 500 * p2.toNat + (l6_6 + 1).toNat = 500 * p2.toNat + l6_6.toNat + 1 by omega) (show (((p2 * 500) + l6_6)).toNat = 500 * p2.toNat + l6_6.toNat by omega) (by omega) (by omega) (by first | (rw [if_pos (by omega)]; done) | (rw [if_neg (by omega)]; unfold GVF; first | (rw [if_neg (by omega)]; first | (rw [if_pos (by omega)]; done) | (rw [if_neg (by omega)]; done)) | (rw [if_pos (by omega)]; done))) (fun j hj => u2_ne (fun z_ => hj z_.2)) u2_eq | exact CIB_s qC (show ((p4 - l6_6).toNat) = (p4 - (l6_6 + 1)).toNat + 1 by omega) (show 500 * p2.toNat + (l6_6 + 1).toNat = 500 * p2.toNat + l6_6.toNat + 1 by omega) (show (((p2 * 500) + l6_6)).toNat = 500 * p2.toNat + l6_6.toNat by omega) (by omega) (by omega) | exact CIB_n qC (show ((p4 - l6_6).toNat) = (p4 - (l6_6 + 1)).toNat + 1 by omega) (show 500 * p2.toNat + (l6_6 + 1).toNat = 500 * p2.toNat + l6_6.toNat + 1 by omega) (show (((p2 * 500) + l6_6)).toNat = 500 * p2.toNat + l6_6.toNat by omega) (by omega) (by omega) rfl (fun j hj => u2_ne (fun z_ => hj z_.2)) u2_eq | exact CIB_b qC (show ((p4 - l6_6).toNat) = (p4 - (l6_6 + 1)).toNat + 1 by omega) (show 500 * p2.toNat + (l6_6 + 1).toNat = 500 * p2.toNat + l6_6.toNat + 1 by omega) (show (((p2 * 500) + l6_6)).toNat = 500 * p2.toNat + l6_6.toNat by omega) (by omega) (by omega) (by omega) hI rfl (fun j hj => u2_ne (fun z_ => hj z_.2)) u2_eq | exact CIB_f qC (show ((p4 - l6_6).toNat) = (p4 - (l6_6 + 1)).toNat + 1 by omega) (show 500 * p2.toNat + (l6_6 + 1).toNat = 500 * p2.toNat + l6_6.toNat + 1 by omega) (show (((p2 * 500) + l6_6)).toNat = 500 * p2.toNat + l6_6.toNat by omega) (by omega) (by omega)) (by first | omega | exact CIB_0 rfl | exact CIB_p qC (show ((p4 - l6_6).toNat) = (p4 - (l6_6 + 1)).toNat + 1 by omega) (show 500 * p2.toNat + (l6_6 + 1).toNat = 500 * p2.toNat + l6_6.toNat + 1 by omega) (show (((p2 * 500) + l6_6)).toNat = 500 * p2.toNat + l6_6.toNat by omega) (by omega) (by omega) (by first | (rw [if_pos (by omega)]; done) | (rw [if_neg (by omega)]; unfold GVF; first | (rw [if_neg (by omega)]; first | (rw [if_pos (by omega)]; done) | (rw [if_neg (by omega)]; done)) | (rw [if_pos (by omega)]; done))) (fun j hj => u2_ne (fun z_ => hj z_.2)) u2_eq | exact CIB_s qC (show ((p4 - l6_6).toNat) = (p4 - (l6_6 + 1)).toNat + 1 by omega) (show 500 * p2.toNat + (l6_6 + 1).toNat = 500 * p2.toNat + l6_6.toNat + 1 by omega) (show (((p2 * 500) + l6_6)).toNat = 500 * p2.toNat + l6_6.toNat by omega) (by omega) (by omega) | exact CIB_n qC (show ((p4 - l6_6).toNat) = (p4 - (l6_6 + 1)).toNat + 1 by omega) (show 500 * p2.toNat + (l6_6 + 1).toNat = 500 * p2.toNat + l6_6.toNat + 1 by omega) (show (((p2 * 500) + l6_6)).toNat = 500 * p2.toNat + l6_6.toNat by omega) (by omega) (by omega) rfl (fun j hj => u2_ne (fun z_ => hj z_.2)) u2_eq | exact CIB_b qC (show ((p4 - l6_6).toNat) = (p4 - (l6_6 + 1)).toNat + 1 by omega) (show 500 * p2.toNat + (l6_6 + 1).toNat = 500 * p2.toNat + l6_6.toNat + 1 by omega) (show (((p2 * 500) + l6_6)).toNat = 500 * p2.toNat + l6_6.toNat by omega) (by omega) (by omega) (by omega) hI rfl (fun j hj => u2_ne (fun z_ => hj z_.2)) u2_eq | exact CIB_f qC (show ((p4 - l6_6).toNat) = (p4 - (l6_6 + 1)).toNat + 1 by omega) (show 500 * p2.toNat + (l6_6 + 1).toNat = 500 * p2.toNat + l6_6.toNat + 1 by omega) (show (((p2 * 500) + l6_6)).toNat = 500 * p2.toNat + l6_6.toNat by omega) (by omega) (by omega)) (Nat.lt_succ_self _)) ⟨.inl rfl, .inl rfl, .inl rfl, .inr ⟨rfl, trivial⟩, .inl rfl, .inl rfl, .inl rfl, .inl rfl, .inl rfl, trivial⟩
theorem chk_sp_X3_amountOf_f (L : Nat) (xs : Nat → Int32) (sio : Option Nat) (d : Nat) (dt : Nat → Nat → Int) (hI : InvC dt) (F : Nat → Int) (hMF : MW F) (p2 : Int) (h_p2 : 0 ≤ p2 ∧ p2 ≤ 3) (p3 : Int) (h_p3 : 0 ≤ p3 ∧ p3 ≤ 8) (p4 : Int) (h_p4 : 0 ≤ p4 ∧ p4 ≤ 1000) (h_p0 : LWL (dt 4) (dt 5) (dt 6) F) (h_p1 : (p3 = 8 → p4 = 100) ∧ (¬ p3 = 8 → p4 = 99)) : GO (am_XX L xs sio) (d + 2) 47 0 [some (.inr (.inr (some 71))), some (.inr (.inr (some 1))), some (.inl p2), some (.inl p3), some (.inl p4), none, none, none, none, none] [] (SH, dt) (fun r w2 => ∃ dt2 : Nat → Nat → Int, w2 = (SH, dt2) ∧ InvC dt2 ∧ Fr [74] dt dt2 ∧ ((∃ v : Int, r = some (.inl v) ∧ (0 ≤ v ∧ v ≤ 1000) ∧ (v = WH F (FAC (dt 73)) p2 p3)))) := by
  have hF : Fr [74] dt dt := Fr_refl
  have hm_ := MW_lm hMF p2 ⟨by omega, by omega⟩
  have h5_ := (h_p0 p2.toNat (by omega)).1
  rw [show 974 + p2.toNat = (974 + p2).toNat by omega] at h5_
  refine go_to (k := 1) (pc' := 1) (L' := [some (.inr (.inr (some 71))), some (.inr (.inr (some 1))), some (.inl p2), some (.inl p3), some (.inl p4), none, none, none, none, none]) (st' := [.inl p2]) (w' := (SH, dt)) (fun _ => rfl) ?_
  refine go_call (Q' := _) rfl rfl rfl rfl rfl (sp_X5_isLaw L xs sio (d + 0) dt hI  p2 ⟨by omega, by omega⟩ ) ?_
  rintro _ _ ⟨rfl, h1⟩
  refine ⟨rfl, ?_⟩
  rcases h1 with ⟨rfl, h1⟩ | ⟨rfl, h1⟩
  · skip
    refine go_to (k := 3) (pc' := 12) (L' := [some (.inr (.inr (some 71))), some (.inr (.inr (some 1))), some (.inl p2), some (.inl p3), some (.inl p4), some (.inl 0), none, none, none, none]) (st' := []) (w' := (SH, dt)) (fun _ => rfl) ?_
    have loop26 : ∀ (k_ : Nat) (l12_5 : Int) (dt20 : Nat → Nat → Int) (hI21 : InvC dt20) (hF22 : Fr [74] dt dt20) (i23 : 0 ≤ l12_5 ∧ l12_5 ≤ 16) (i24 : WI F (FAC (dt 73)) p2 p3 l12_5) (i25 : l12_5 ≤ F (974 + p2).toNat), (17 - l12_5).toNat < k_ → GO (am_XX L xs sio) (d + 2) 47 12 [some (.inr (.inr (some 71))), some (.inr (.inr (some 1))), some (.inl p2), some (.inl p3), some (.inl p4), some (.inl l12_5), none, none, none, none] [] (SH, dt20) (fun r w2 => ∃ dt2 : Nat → Nat → Int, w2 = (SH, dt2) ∧ InvC dt2 ∧ Fr [74] dt dt2 ∧ ((∃ v : Int, r = some (.inl v) ∧ (0 ≤ v ∧ v ≤ 1000) ∧ (v = WH F (FAC (dt 73)) p2 p3)))) := by
      intro k_
      induction k_ with
      | zero => intro l12_5 dt20 hI21 hF22 i23 i24 i25 hm; exact absurd hm (Nat.not_lt_zero _)
      | succ k_ ih_loop26 =>
        intro l12_5 dt20 hI21 hF22 i23 i24 i25 hm
        have qI := i24
        have qL := fun (z_ : l12_5 < F (974 + p2).toNat) => LWR_at h_p0 (k := p2) (q := l12_5) ⟨by omega, by omega⟩ ⟨by omega, z_⟩
        refine go_to (k := 4) (pc' := 19) (L' := [some (.inr (.inr (some 71))), some (.inr (.inr (some 1))), some (.inl p2), some (.inl p3), some (.inl p4), some (.inl l12_5), none, none, none, none]) (st' := [.inl p2, .inr (.inr (some 5)), .inl l12_5]) (w' := (SH, dt20)) (fun _ => rfl) ?_
        have r27 : (-2147483648) ≤ dt 5 (p2).toNat ∧ dt 5 (p2).toNat ≤ 2147483647 := InvC_get hI 5 (p2).toNat rfl rfl
        refine go_smp (L' := [some (.inr (.inr (some 71))), some (.inr (.inr (some 1))), some (.inl p2), some (.inl p3), some (.inl p4), some (.inl l12_5), none, none, none, none]) (st' := [.inl (dt 5 (p2).toNat), .inl l12_5]) (w' := (SH, dt20)) rfl rfl (s_ev (s_iald (n := 4) (f := dt20 5) rfl ⟨by omega, by omega⟩) (hF22 5 (by decide) _)) ?_
        refine go_if (k := 1) (p1 := 134) (p2 := 23) (L' := [some (.inr (.inr (some 71))), some (.inr (.inr (some 1))), some (.inl p2), some (.inl p3), some (.inl p4), some (.inl l12_5), none, none, none, none]) (st' := []) (w' := (SH, dt20)) (fun _ => rfl) (c_ge (a := l12_5) (b := dt 5 (p2).toNat) ⟨by omega, by omega⟩ ⟨by omega, by omega⟩) (fun c28 => ?_) (fun c28 => ?_)
        · skip
          refine go_ret (k := 2) (r := some (.inl 0)) (w1 := (SH, dt20)) (fun _ => rfl) ?_
          exact ⟨dt20, rfl, hI21, hF22, ⟨_, rfl, ⟨by omega, by omega⟩, by first | exact (WI_e qI (by omega)).symm | (rw [← WI_v (i := l12_5) qI (by omega) (by omega) (by omega)]; first | (rw [if_pos (by omega)]; omega) | (rw [if_neg (by omega)]; omega))⟩⟩
        · skip
          refine go_if (k := 3) (p1 := 134) (p2 := 30) (L' := [some (.inr (.inr (some 71))), some (.inr (.inr (some 1))), some (.inl p2), some (.inl p3), some (.inl p4), some (.inl l12_5), none, none, none, none]) (st' := []) (w' := (SH, dt20)) (fun _ => rfl) (c_ge (a := l12_5) (b := 16) ⟨by omega, by omega⟩ ⟨by omega, by omega⟩) (fun c29 => ?_) (fun c29 => ?_)
          · skip
            refine go_ret (k := 2) (r := some (.inl 0)) (w1 := (SH, dt20)) (fun _ => rfl) ?_
            exact ⟨dt20, rfl, hI21, hF22, ⟨_, rfl, ⟨by omega, by omega⟩, by first | exact (WI_e qI (by omega)).symm | (rw [← WI_v (i := l12_5) qI (by omega) (by omega) (by omega)]; first | (rw [if_pos (by omega)]; omega) | (rw [if_neg (by omega)]; omega))⟩⟩
          · skip
            obtain ⟨_, qr_, qb_, _⟩ := qL (by omega)
            have qE := LWR_E (g := dt 73) h_p0 hMF (k := p2) (q := l12_5) ⟨by omega, by omega⟩ ⟨by omega, by omega⟩ (rfl : dt 4 (((((p2 * 16) + l12_5) * 4)) + 1).toNat = dt 4 (((((p2 * 16) + l12_5) * 4)) + 1).toNat) (rfl : dt 4 (((((p2 * 16) + l12_5) * 4)) + 2).toNat = dt 4 (((((p2 * 16) + l12_5) * 4)) + 2).toNat)
            have qB := LWR_B (g := dt 73) h_p0 hMF (k := p2) (q := l12_5) ⟨by omega, by omega⟩ ⟨by omega, by omega⟩ (rfl : dt 4 (((((p2 * 16) + l12_5) * 4)) + 2).toNat = dt 4 (((((p2 * 16) + l12_5) * 4)) + 2).toNat) (rfl : dt 4 (((((p2 * 16) + l12_5) * 4)) + 3).toNat = dt 4 (((((p2 * 16) + l12_5) * 4)) + 3).toNat)
            refine go_to (k := 11) (pc' := 47) (L' := [some (.inr (.inr (some 71))), some (.inr (.inr (some 1))), some (.inl p2), some (.inl p3), some (.inl p4), some (.inl l12_5), some (.inl (((p2 * 16) + l12_5) * 4)), none, none, none]) (st' := [.inl (((p2 * 16) + l12_5) * 4), .inr (.inr (some 4))]) (w' := (SH, dt20)) (fun _ => rfl) ?_
            have r30 : (-2147483648) ≤ dt 4 ((((p2 * 16) + l12_5) * 4).toNat) ∧ dt 4 ((((p2 * 16) + l12_5) * 4).toNat) ≤ 2147483647 := InvC_get hI 4 ((((p2 * 16) + l12_5) * 4).toNat) rfl rfl
            refine go_smp (L' := [some (.inr (.inr (some 71))), some (.inr (.inr (some 1))), some (.inl p2), some (.inl p3), some (.inl p4), some (.inl l12_5), some (.inl (((p2 * 16) + l12_5) * 4)), none, none, none]) (st' := [.inl (dt 4 ((((p2 * 16) + l12_5) * 4).toNat))]) (w' := (SH, dt20)) rfl rfl (s_ev (s_iald (n := 256) (f := dt20 4) rfl ⟨by omega, by omega⟩) (hF22 4 (by decide) _)) ?_
            refine go_if (k := 2) (p1 := 128) (p2 := 52) (L' := [some (.inr (.inr (some 71))), some (.inr (.inr (some 1))), some (.inl p2), some (.inl p3), some (.inl p4), some (.inl l12_5), some (.inl (((p2 * 16) + l12_5) * 4)), none, none, none]) (st' := []) (w' := (SH, dt20)) (fun _ => rfl) (c_ne (a := dt 4 ((((p2 * 16) + l12_5) * 4).toNat)) (b := p3) ⟨by omega, by omega⟩ ⟨by omega, by omega⟩) (fun c31 => ?_) (fun c31 => ?_)
            · skip
              refine go_to (k := 2) (pc' := 12) (L' := [some (.inr (.inr (some 71))), some (.inr (.inr (some 1))), some (.inl p2), some (.inl p3), some (.inl p4), some (.inl (l12_5 + 1)), some (.inl (((p2 * 16) + l12_5) * 4)), none, none, none]) (st' := []) (w' := (SH, dt20)) (fun _ => rfl) ?_
              exact GO.le (ih_loop26 (l12_5 + 1) dt20 hI21 hF22 (by first | omega | exact WI_0 | exact WI_n1 qI (by omega) (by omega) | exact WI_n2 qI (by omega) (by omega) (by omega) (by omega)) (by first | omega | exact WI_0 | exact WI_n1 qI (by omega) (by omega) | exact WI_n2 qI (by omega) (by omega) (by omega) (by omega)) (by first | omega | exact WI_0 | exact WI_n1 qI (by omega) (by omega) | exact WI_n2 qI (by omega) (by omega) (by omega) (by omega)) (by omega)) ⟨.inl rfl, .inl rfl, .inl rfl, .inl rfl, .inl rfl, .inl rfl, .inr ⟨rfl, trivial⟩, .inl rfl, .inl rfl, .inl rfl, trivial⟩
            · skip
              refine go_to (k := 5) (pc' := 60) (L' := [some (.inr (.inr (some 71))), some (.inr (.inr (some 1))), some (.inl p2), some (.inl p3), some (.inl p4), some (.inl l12_5), some (.inl (((p2 * 16) + l12_5) * 4)), none, none, none]) (st' := [.inl ((((p2 * 16) + l12_5) * 4) + 1), .inr (.inr (some 4))]) (w' := (SH, dt20)) (fun _ => rfl) ?_
              have r32 : (-2147483648) ≤ dt 4 (((((p2 * 16) + l12_5) * 4) + 1).toNat) ∧ dt 4 (((((p2 * 16) + l12_5) * 4) + 1).toNat) ≤ 2147483647 := InvC_get hI 4 (((((p2 * 16) + l12_5) * 4) + 1).toNat) rfl rfl
              refine go_smp (L' := [some (.inr (.inr (some 71))), some (.inr (.inr (some 1))), some (.inl p2), some (.inl p3), some (.inl p4), some (.inl l12_5), some (.inl (((p2 * 16) + l12_5) * 4)), none, none, none]) (st' := [.inl (dt 4 (((((p2 * 16) + l12_5) * 4) + 1).toNat))]) (w' := (SH, dt20)) rfl rfl (s_ev (s_iald (n := 256) (f := dt20 4) rfl ⟨by omega, by omega⟩) (hF22 4 (by decide) _)) ?_
              refine go_to (k := 6) (pc' := 71) (L' := [some (.inr (.inr (some 71))), some (.inr (.inr (some 1))), some (.inl p2), some (.inl p3), some (.inl p4), some (.inl l12_5), some (.inl (((p2 * 16) + l12_5) * 4)), some (.inl (dt 4 (((((p2 * 16) + l12_5) * 4) + 1).toNat))), none, none]) (st' := [.inl ((((p2 * 16) + l12_5) * 4) + 2), .inr (.inr (some 4))]) (w' := (SH, dt20)) (fun _ => rfl) ?_
              have r33 : (-2147483648) ≤ dt 4 (((((p2 * 16) + l12_5) * 4) + 2).toNat) ∧ dt 4 (((((p2 * 16) + l12_5) * 4) + 2).toNat) ≤ 2147483647 := InvC_get hI 4 (((((p2 * 16) + l12_5) * 4) + 2).toNat) rfl rfl
              refine go_smp (L' := [some (.inr (.inr (some 71))), some (.inr (.inr (some 1))), some (.inl p2), some (.inl p3), some (.inl p4), some (.inl l12_5), some (.inl (((p2 * 16) + l12_5) * 4)), some (.inl (dt 4 (((((p2 * 16) + l12_5) * 4) + 1).toNat))), none, none]) (st' := [.inl (dt 4 (((((p2 * 16) + l12_5) * 4) + 2).toNat))]) (w' := (SH, dt20)) rfl rfl (s_ev (s_iald (n := 256) (f := dt20 4) rfl ⟨by omega, by omega⟩) (hF22 4 (by decide) _)) ?_
              refine go_to (k := 6) (pc' := 82) (L' := [some (.inr (.inr (some 71))), some (.inr (.inr (some 1))), some (.inl p2), some (.inl p3), some (.inl p4), some (.inl l12_5), some (.inl (((p2 * 16) + l12_5) * 4)), some (.inl (dt 4 (((((p2 * 16) + l12_5) * 4) + 1).toNat))), some (.inl (dt 4 (((((p2 * 16) + l12_5) * 4) + 2).toNat))), none]) (st' := [.inl ((((p2 * 16) + l12_5) * 4) + 3), .inr (.inr (some 4))]) (w' := (SH, dt20)) (fun _ => rfl) ?_
              have r34 : (-2147483648) ≤ dt 4 (((((p2 * 16) + l12_5) * 4) + 3).toNat) ∧ dt 4 (((((p2 * 16) + l12_5) * 4) + 3).toNat) ≤ 2147483647 := InvC_get hI 4 (((((p2 * 16) + l12_5) * 4) + 3).toNat) rfl rfl
              refine go_smp (L' := [some (.inr (.inr (some 71))), some (.inr (.inr (some 1))), some (.inl p2), some (.inl p3), some (.inl p4), some (.inl l12_5), some (.inl (((p2 * 16) + l12_5) * 4)), some (.inl (dt 4 (((((p2 * 16) + l12_5) * 4) + 1).toNat))), some (.inl (dt 4 (((((p2 * 16) + l12_5) * 4) + 2).toNat))), none]) (st' := [.inl (dt 4 (((((p2 * 16) + l12_5) * 4) + 3).toNat))]) (w' := (SH, dt20)) rfl rfl (s_ev (s_iald (n := 256) (f := dt20 4) rfl ⟨by omega, by omega⟩) (hF22 4 (by decide) _)) ?_
              refine go_if (k := 4) (p1 := 109) (p2 := 92) (L' := [some (.inr (.inr (some 71))), some (.inr (.inr (some 1))), some (.inl p2), some (.inl p3), some (.inl p4), some (.inl l12_5), some (.inl (((p2 * 16) + l12_5) * 4)), some (.inl (dt 4 (((((p2 * 16) + l12_5) * 4) + 1).toNat))), some (.inl (dt 4 (((((p2 * 16) + l12_5) * 4) + 2).toNat))), some (.inl (dt 4 (((((p2 * 16) + l12_5) * 4) + 3).toNat)))]) (st' := []) (w' := (SH, dt20)) (fun _ => rfl) (c_eq (a := dt 4 (((((p2 * 16) + l12_5) * 4) + 2).toNat)) (b := dt 4 (((((p2 * 16) + l12_5) * 4) + 3).toNat)) ⟨by omega, by omega⟩ ⟨by omega, by omega⟩) (fun c35 => ?_) (fun c35 => ?_)
              · skip
                refine go_to (k := 6) (pc' := 119) (L' := [some (.inr (.inr (some 71))), some (.inr (.inr (some 1))), some (.inl p2), some (.inl p3), some (.inl p4), some (.inl l12_5), some (.inl (((p2 * 16) + l12_5) * 4)), some (.inl (dt 4 (((((p2 * 16) + l12_5) * 4) + 1).toNat))), some (.inl (dt 4 (((((p2 * 16) + l12_5) * 4) + 2).toNat))), some (.inl (dt 4 (((((p2 * 16) + l12_5) * 4) + 3).toNat)))]) (st' := [.inl (dt 4 (((((p2 * 16) + l12_5) * 4) + 2).toNat)), .inl (dt 4 (((((p2 * 16) + l12_5) * 4) + 1).toNat)), .inl p2, .inr (.inr (some 6)), .inr (.inr (some 71))]) (w' := (SH, dt20)) (fun _ => rfl) ?_
                refine go_call (Q' := _) rfl rfl rfl rfl rfl (sp_X3_run_f L xs sio (d + 0) dt20 hI21  p2 ⟨by omega, by omega⟩ (dt 4 (((((p2 * 16) + l12_5) * 4) + 1).toNat)) ⟨by omega, by omega⟩ (dt 4 (((((p2 * 16) + l12_5) * 4) + 2).toNat)) ⟨by omega, by omega⟩ ) ?_
                rintro _ _ ⟨dt37, rfl, hI38, hF39, h36⟩
                refine ⟨rfl, ?_⟩
                have hF40 : Fr [74] dt dt37 := Fr_tr hF22 hF39 (by decide)
                rcases h36 with ⟨v_h36, rfl, h36r, h36⟩
                have ru41 := h36
                rw [show dt20 6 = dt 6 from funext (hF 6 (by decide)), show dt20 73 = dt 73 from funext (hF 73 (by decide))] at ru41
                have rv42 := qE
                rw [← ru41] at rv42
                refine go_to (k := 1) (pc' := 124) (L' := [some (.inr (.inr (some 71))), some (.inr (.inr (some 1))), some (.inl p2), some (.inl p3), some (.inl p4), some (.inl l12_5), some (.inl (((p2 * 16) + l12_5) * 4)), some (.inl (dt 4 (((((p2 * 16) + l12_5) * 4) + 1).toNat))), some (.inl (dt 4 (((((p2 * 16) + l12_5) * 4) + 2).toNat))), some (.inl (dt 4 (((((p2 * 16) + l12_5) * 4) + 3).toNat)))]) (st' := [.inl p4, .inl v_h36]) (w' := (SH, dt37)) (fun _ => rfl) ?_
                refine go_call (Q' := _) rfl rfl rfl rfl rfl (sp_X5_cut_c L xs sio (d + 0) dt37 hI38  v_h36 ⟨by omega, by omega⟩ p4 ⟨by omega, by omega⟩ ) ?_
                rintro _ _ ⟨rfl, h43⟩
                refine ⟨rfl, ?_⟩
                rcases h43 with ⟨v_h43, rfl, h43r, h43⟩
                refine go_ret (k := 1) (r := some (.inl v_h43)) (w1 := (SH, dt37)) (fun _ => rfl) ?_
                exact ⟨dt37, rfl, hI38, hF40, ⟨_, rfl, ⟨by omega, by omega⟩, by first | exact (WI_e qI (by omega)).symm | (rw [← WI_v (i := l12_5) qI (by omega) (by omega) (by omega)]; first | (rw [if_pos (by omega)]; omega) | (rw [if_neg (by omega)]; omega))⟩⟩
              · skip
                refine go_to (k := 6) (pc' := 102) (L' := [some (.inr (.inr (some 71))), some (.inr (.inr (some 1))), some (.inl p2), some (.inl p3), some (.inl p4), some (.inl l12_5), some (.inl (((p2 * 16) + l12_5) * 4)), some (.inl (dt 4 (((((p2 * 16) + l12_5) * 4) + 1).toNat))), some (.inl (dt 4 (((((p2 * 16) + l12_5) * 4) + 2).toNat))), some (.inl (dt 4 (((((p2 * 16) + l12_5) * 4) + 3).toNat)))]) (st' := [.inl (dt 4 (((((p2 * 16) + l12_5) * 4) + 3).toNat)), .inl (dt 4 (((((p2 * 16) + l12_5) * 4) + 2).toNat)), .inl p2, .inr (.inr (some 6)), .inr (.inr (some 71))]) (w' := (SH, dt20)) (fun _ => rfl) ?_
                refine go_call (Q' := _) rfl rfl rfl rfl rfl (sp_X3_run_f L xs sio (d + 0) dt20 hI21  p2 ⟨by omega, by omega⟩ (dt 4 (((((p2 * 16) + l12_5) * 4) + 2).toNat)) ⟨by omega, by omega⟩ (dt 4 (((((p2 * 16) + l12_5) * 4) + 3).toNat)) ⟨by omega, by omega⟩ ) ?_
                rintro _ _ ⟨dt45, rfl, hI46, hF47, h44⟩
                refine ⟨rfl, ?_⟩
                have hF48 : Fr [74] dt dt45 := Fr_tr hF22 hF47 (by decide)
                rcases h44 with ⟨v_h44, rfl, h44r, h44⟩
                have ru49 := h44
                rw [show dt20 6 = dt 6 from funext (hF 6 (by decide)), show dt20 73 = dt 73 from funext (hF 73 (by decide))] at ru49
                have rv50 := (qB.2 (by omega)).2
                rw [← ru49] at rv50
                refine go_if (k := 2) (p1 := 128) (p2 := 109) (L' := [some (.inr (.inr (some 71))), some (.inr (.inr (some 1))), some (.inl p2), some (.inl p3), some (.inl p4), some (.inl l12_5), some (.inl (((p2 * 16) + l12_5) * 4)), some (.inl (dt 4 (((((p2 * 16) + l12_5) * 4) + 1).toNat))), some (.inl (dt 4 (((((p2 * 16) + l12_5) * 4) + 2).toNat))), some (.inl (dt 4 (((((p2 * 16) + l12_5) * 4) + 3).toNat)))]) (st' := []) (w' := (SH, dt45)) (fun _ => rfl) (c_ne (a := v_h44) (b := 1) ⟨by omega, by omega⟩ ⟨by omega, by omega⟩) (fun c51 => ?_) (fun c51 => ?_)
                · skip
                  refine go_to (k := 2) (pc' := 12) (L' := [some (.inr (.inr (some 71))), some (.inr (.inr (some 1))), some (.inl p2), some (.inl p3), some (.inl p4), some (.inl (l12_5 + 1)), some (.inl (((p2 * 16) + l12_5) * 4)), some (.inl (dt 4 (((((p2 * 16) + l12_5) * 4) + 1).toNat))), some (.inl (dt 4 (((((p2 * 16) + l12_5) * 4) + 2).toNat))), some (.inl (dt 4 (((((p2 * 16) + l12_5) * 4) + 3).toNat)))]) (st' := []) (w' := (SH, dt45)) (fun _ => rfl) ?_
                  exact GO.le (ih_loop26 (l12_5 + 1) dt45 hI46 hF48 (by first | omega | exact WI_0 | exact WI_n1 qI (by omega) (by omega) | exact WI_n2 qI (by omega) (by omega) (by omega) (by omega)) (by first | omega | exact WI_0 | exact WI_n1 qI (by omega) (by omega) | exact WI_n2 qI (by omega) (by omega) (by omega) (by omega)) (by first | omega | exact WI_0 | exact WI_n1 qI (by omega) (by omega) | exact WI_n2 qI (by omega) (by omega) (by omega) (by omega)) (by omega)) ⟨.inl rfl, .inl rfl, .inl rfl, .inl rfl, .inl rfl, .inl rfl, .inr ⟨rfl, trivial⟩, .inr ⟨rfl, trivial⟩, .inr ⟨rfl, trivial⟩, .inr ⟨rfl, trivial⟩, trivial⟩
                · skip
                  refine go_to (k := 6) (pc' := 119) (L' := [some (.inr (.inr (some 71))), some (.inr (.inr (some 1))), some (.inl p2), some (.inl p3), some (.inl p4), some (.inl l12_5), some (.inl (((p2 * 16) + l12_5) * 4)), some (.inl (dt 4 (((((p2 * 16) + l12_5) * 4) + 1).toNat))), some (.inl (dt 4 (((((p2 * 16) + l12_5) * 4) + 2).toNat))), some (.inl (dt 4 (((((p2 * 16) + l12_5) * 4) + 3).toNat)))]) (st' := [.inl (dt 4 (((((p2 * 16) + l12_5) * 4) + 2).toNat)), .inl (dt 4 (((((p2 * 16) + l12_5) * 4) + 1).toNat)), .inl p2, .inr (.inr (some 6)), .inr (.inr (some 71))]) (w' := (SH, dt45)) (fun _ => rfl) ?_
                  refine go_call (Q' := _) rfl rfl rfl rfl rfl (sp_X3_run_f L xs sio (d + 0) dt45 hI46  p2 ⟨by omega, by omega⟩ (dt 4 (((((p2 * 16) + l12_5) * 4) + 1).toNat)) ⟨by omega, by omega⟩ (dt 4 (((((p2 * 16) + l12_5) * 4) + 2).toNat)) ⟨by omega, by omega⟩ ) ?_
                  rintro _ _ ⟨dt53, rfl, hI54, hF55, h52⟩
                  refine ⟨rfl, ?_⟩
                  have hF56 : Fr [74] dt dt53 := Fr_tr hF48 hF55 (by decide)
                  rcases h52 with ⟨v_h52, rfl, h52r, h52⟩
                  have ru57 := h52
                  rw [show dt45 6 = dt 6 from funext (hF48 6 (by decide)), show dt45 73 = dt 73 from funext (hF48 73 (by decide))] at ru57
                  have rv58 := qE
                  rw [← ru57] at rv58
                  refine go_to (k := 1) (pc' := 124) (L' := [some (.inr (.inr (some 71))), some (.inr (.inr (some 1))), some (.inl p2), some (.inl p3), some (.inl p4), some (.inl l12_5), some (.inl (((p2 * 16) + l12_5) * 4)), some (.inl (dt 4 (((((p2 * 16) + l12_5) * 4) + 1).toNat))), some (.inl (dt 4 (((((p2 * 16) + l12_5) * 4) + 2).toNat))), some (.inl (dt 4 (((((p2 * 16) + l12_5) * 4) + 3).toNat)))]) (st' := [.inl p4, .inl v_h52]) (w' := (SH, dt53)) (fun _ => rfl) ?_
                  refine go_call (Q' := _) rfl rfl rfl rfl rfl (sp_X5_cut_c L xs sio (d + 0) dt53 hI54  v_h52 ⟨by omega, by omega⟩ p4 ⟨by omega, by omega⟩ ) ?_
                  rintro _ _ ⟨rfl, h59⟩
                  refine ⟨rfl, ?_⟩
                  rcases h59 with ⟨v_h59, rfl, h59r, h59⟩
                  refine go_ret (k := 1) (r := some (.inl v_h59)) (w1 := (SH, dt53)) (fun _ => rfl) ?_
                  exact ⟨dt53, rfl, hI54, hF56, ⟨_, rfl, ⟨by omega, by omega⟩, by first | exact (WI_e qI (by omega)).symm | (rw [← WI_v (i := l12_5) qI (by omega) (by omega) (by omega)]; first | (rw [if_pos (by omega)]; omega) | (rw [if_neg (by omega)]; omega))⟩⟩
    exact GO.le (loop26 _ 0 dt hI hF (by first | omega | exact WI_0 | exact WI_n1 qI (by omega) (by omega) | exact WI_n2 qI (by omega) (by omega) (by omega) (by omega)) (by first | omega | exact WI_0 | exact WI_n1 qI (by omega) (by omega) | exact WI_n2 qI (by omega) (by omega) (by omega) (by omega)) (by first | omega | exact WI_0 | exact WI_n1 qI (by omega) (by omega) | exact WI_n2 qI (by omega) (by omega) (by omega) (by omega)) (Nat.lt_succ_self _)) ⟨.inl rfl, .inl rfl, .inl rfl, .inl rfl, .inl rfl, .inl rfl, .inl rfl, .inl rfl, .inl rfl, .inl rfl, trivial⟩
  · skip
    exfalso; omega
theorem chk_sp_X3_weigh_f (L : Nat) (xs : Nat → Int32) (sio : Option Nat) (d : Nat) (dt : Nat → Nat → Int) (hI : InvC dt) (F : Nat → Int) (hMF : MW F) (p2 : Int) (h_p2 : 0 ≤ p2 ∧ p2 ≤ 3) (h_p0 : LWL (dt 4) (dt 5) (dt 6) F) : GO (am_XX L xs sio) (d + 3) 45 0 [some (.inr (.inr (some 71))), some (.inr (.inr (some 1))), some (.inl p2), none] [] (SH, dt) (fun r w2 => ∃ dt2 : Nat → Nat → Int, w2 = (SH, dt2) ∧ InvC dt2 ∧ Fr [71, 72, 74] dt dt2 ∧ ((r = none ∧ (WGT (dt2 72) (dt2 71 1) F (FAC (dt 73)) p2)))) := by
  have hF : Fr [71, 72, 74] dt dt := Fr_refl
  refine go_to (k := 2) (pc' := 2) (L' := [some (.inr (.inr (some 71))), some (.inr (.inr (some 1))), some (.inl p2), none]) (st' := [.inl 0, .inr (.inr (some 71))]) (w' := (SH, dt)) (fun _ => rfl) ?_
  have hI1 : InvC (u2 dt 71 1 0) := InvC_u2 hI (lo := 0) (hi := 792) rfl rfl rfl (by omega) (by omega)
  have hF2 : Fr [71, 72, 74] dt (u2 dt 71 1 0) := Fr_u2 hF (by decide)
  have w3 : (u2 dt 71 1 0) 71 1 = 0 := rfl
  refine go_smp (L' := [some (.inr (.inr (some 71))), some (.inr (.inr (some 1))), some (.inl p2), none]) (st' := []) (w' := (SH, (u2 dt 71 1 0))) rfl rfl (s_pf rfl rfl rfl rfl ⟨by omega, by omega⟩) ?_
  refine go_to (k := 2) (pc' := 7) (L' := [some (.inr (.inr (some 71))), some (.inr (.inr (some 1))), some (.inl p2), some (.inl 0)]) (st' := []) (w' := (SH, (u2 dt 71 1 0))) (fun _ => rfl) ?_
  have loop28 : ∀ (k_ : Nat) (l7_3 : Int) (dt21 : Nat → Nat → Int) (hI22 : InvC dt21) (hF23 : Fr [71, 72, 74] dt dt21) (i24 : 0 ≤ l7_3 ∧ l7_3 ≤ 8) (i25 : ∀ r : Nat, (r : Int) < l7_3 → dt21 72 r = WH F (FAC (dt 73)) p2 (r : Int)) (i26 : dt21 71 1 = WS F (FAC (dt 73)) p2 (l7_3).toNat) (i27 : 0 ≤ dt21 71 1 ∧ dt21 71 1 ≤ 99 * l7_3), (9 - l7_3).toNat < k_ → GO (am_XX L xs sio) (d + 3) 45 7 [some (.inr (.inr (some 71))), some (.inr (.inr (some 1))), some (.inl p2), some (.inl l7_3)] [] (SH, dt21) (fun r w2 => ∃ dt2 : Nat → Nat → Int, w2 = (SH, dt2) ∧ InvC dt2 ∧ Fr [71, 72, 74] dt dt2 ∧ ((r = none ∧ (WGT (dt2 72) (dt2 71 1) F (FAC (dt 73)) p2)))) := by
    intro k_
    induction k_ with
    | zero => intro l7_3 dt21 hI22 hF23 i24 i25 i26 i27 hm; exact absurd hm (Nat.not_lt_zero _)
    | succ k_ ih_loop28 =>
      intro l7_3 dt21 hI22 hF23 i24 i25 i26 i27 hm
      have q0 := i25
      have q1 := i26
      have hs := WS_s (f := F) (fa := (FAC (dt 73))) (l := p2) (r := l7_3) (by omega)
      have hw : l7_3 < 8 → _ := fun (z_ : l7_3 < 8) => WH_R7 (f := F) (fa := (FAC (dt 73))) (l := p2) (r := l7_3) (by omega)
      refine go_if (k := 3) (p1 := 49) (p2 := 13) (L' := [some (.inr (.inr (some 71))), some (.inr (.inr (some 1))), some (.inl p2), some (.inl l7_3)]) (st' := []) (w' := (SH, dt21)) (fun _ => rfl) (c_ge (a := l7_3) (b := 8) ⟨by omega, by omega⟩ ⟨by omega, by omega⟩) (fun c29 => ?_) (fun c29 => ?_)
      · skip
        refine go_to (k := 8) (pc' := 62) (L' := [some (.inr (.inr (some 71))), some (.inr (.inr (some 1))), some (.inl p2), some (.inl l7_3)]) (st' := [.inl 100, .inl 8, .inl p2, .inr (.inr (some 1)), .inr (.inr (some 71)), .inl 8, .inr (.inr (some 72))]) (w' := (SH, dt21)) (fun _ => rfl) ?_
        refine go_call (Q' := _) rfl rfl rfl rfl rfl (sp_X3_amountOf_f L xs sio (d + 0) dt21 hI22 F hMF p2 ⟨by omega, by omega⟩ 8 ⟨by omega, by omega⟩ 100 ⟨by omega, by omega⟩ (by first | trivial | omega | exact h_p0 | (rw [show dt21 4 = dt 4 from funext (hF23 4 (by decide)), show dt21 5 = dt 5 from funext (hF23 5 (by decide)), show dt21 6 = dt 6 from funext (hF23 6 (by decide))]; exact h_p0)) (by first | trivial | omega | exact h_p0 | (rw [show dt21 4 = dt 4 from funext (hF23 4 (by decide)), show dt21 5 = dt 5 from funext (hF23 5 (by decide)), show dt21 6 = dt 6 from funext (hF23 6 (by decide))]; exact h_p0))) ?_
        rintro _ _ ⟨dt31, rfl, hI32, hF33, h30⟩
        refine ⟨rfl, ?_⟩
        have hF34 : Fr [71, 72, 74] dt dt31 := Fr_tr hF23 hF33 (by decide)
        have w35 : dt31 71 1 = dt21 71 1 := hF33 71 (by decide) 1
        rcases h30 with ⟨v_h30, rfl, h30r, h30⟩
        have wv36 := h30
        rw [show dt21 73 = dt 73 from funext (hF23 73 (by decide))] at wv36
        have hI37 : InvC (u2 dt31 72 8 v_h30) := InvC_u2 hI32 (lo := 0) (hi := 100) rfl rfl rfl (by omega) (by omega)
        have hF38 : Fr [71, 72, 74] dt (u2 dt31 72 8 v_h30) := Fr_u2 hF34 (by decide)
        have w39 : (u2 dt31 72 8 v_h30) 71 1 = dt31 71 1 := rfl
        refine go_smp (L' := [some (.inr (.inr (some 71))), some (.inr (.inr (some 1))), some (.inl p2), some (.inl l7_3)]) (st' := []) (w' := (SH, (u2 dt31 72 8 v_h30))) rfl rfl (s_iast (n := 9) rfl ⟨by omega, by omega⟩ ⟨by omega, by omega⟩) ?_
        refine go_ret (k := 1) (r := none) (w1 := (SH, (u2 dt31 72 8 v_h30))) (fun _ => rfl) ?_
        exact ⟨(u2 dt31 72 8 v_h30), rfl, hI37, hF38, ⟨rfl, by exact ⟨fun r hr => by (repeat rw [u2_ne (by omega)]); exact (hF33 72 (by decide) r).trans (q0 r (by omega)), by (rw [u2_eq]; exact wv36), by have z_ := q1; rw [show l7_3.toNat = 8 by omega] at z_; omega⟩⟩⟩
      · skip
        refine go_to (k := 8) (pc' := 24) (L' := [some (.inr (.inr (some 71))), some (.inr (.inr (some 1))), some (.inl p2), some (.inl l7_3)]) (st' := [.inl 99, .inl l7_3, .inl p2, .inr (.inr (some 1)), .inr (.inr (some 71)), .inl l7_3, .inr (.inr (some 72))]) (w' := (SH, dt21)) (fun _ => rfl) ?_
        refine go_call (Q' := _) rfl rfl rfl rfl rfl (sp_X3_amountOf_f L xs sio (d + 0) dt21 hI22 F hMF p2 ⟨by omega, by omega⟩ l7_3 ⟨by omega, by omega⟩ 99 ⟨by omega, by omega⟩ (by first | trivial | omega | exact h_p0 | (rw [show dt21 4 = dt 4 from funext (hF23 4 (by decide)), show dt21 5 = dt 5 from funext (hF23 5 (by decide)), show dt21 6 = dt 6 from funext (hF23 6 (by decide))]; exact h_p0)) (by first | trivial | omega | exact h_p0 | (rw [show dt21 4 = dt 4 from funext (hF23 4 (by decide)), show dt21 5 = dt 5 from funext (hF23 5 (by decide)), show dt21 6 = dt 6 from funext (hF23 6 (by decide))]; exact h_p0))) ?_
        rintro _ _ ⟨dt41, rfl, hI42, hF43, h40⟩
        refine ⟨rfl, ?_⟩
        have hF44 : Fr [71, 72, 74] dt dt41 := Fr_tr hF23 hF43 (by decide)
        have w45 : dt41 71 1 = dt21 71 1 := hF43 71 (by decide) 1
        rcases h40 with ⟨v_h40, rfl, h40r, h40⟩
        have wv46 := h40
        rw [show dt21 73 = dt 73 from funext (hF23 73 (by decide))] at wv46
        have hI47 : InvC (u2 dt41 72 (l7_3).toNat v_h40) := InvC_u2 hI42 (lo := 0) (hi := 100) rfl rfl rfl (by omega) (by omega)
        have hF48 : Fr [71, 72, 74] dt (u2 dt41 72 (l7_3).toNat v_h40) := Fr_u2 hF44 (by decide)
        have w49 : (u2 dt41 72 (l7_3).toNat v_h40) 71 1 = dt41 71 1 := rfl
        refine go_smp (L' := [some (.inr (.inr (some 71))), some (.inr (.inr (some 1))), some (.inl p2), some (.inl l7_3)]) (st' := []) (w' := (SH, (u2 dt41 72 (l7_3).toNat v_h40))) rfl rfl (s_iast (n := 9) rfl ⟨by omega, by omega⟩ ⟨by omega, by omega⟩) ?_
        have r50 : 0 ≤ dt41 71 1 ∧ dt41 71 1 ≤ 792 := InvC_get hI42 71 1 rfl rfl
        refine go_to (k := 6) (pc' := 38) (L' := [some (.inr (.inr (some 71))), some (.inr (.inr (some 1))), some (.inl p2), some (.inl l7_3)]) (st' := [.inl l7_3, .inr (.inr (some 72)), .inl (dt41 71 1), .inr (.inr (some 71))]) (w' := (SH, (u2 dt41 72 (l7_3).toNat v_h40))) (fun _ => rfl) ?_
        have e51 : (u2 dt41 72 (l7_3).toNat v_h40) 72 (l7_3).toNat = v_h40 := u2_eq
        refine go_smp (L' := [some (.inr (.inr (some 71))), some (.inr (.inr (some 1))), some (.inl p2), some (.inl l7_3)]) (st' := [.inl ((u2 dt41 72 (l7_3).toNat v_h40) 72 (l7_3).toNat), .inl (dt41 71 1), .inr (.inr (some 71))]) (w' := (SH, (u2 dt41 72 (l7_3).toNat v_h40))) rfl rfl (s_iald (n := 9) (f := (u2 dt41 72 (l7_3).toNat v_h40) 72) rfl ⟨by omega, by omega⟩) ?_
        refine go_to (k := 1) (pc' := 40) (L' := [some (.inr (.inr (some 71))), some (.inr (.inr (some 1))), some (.inl p2), some (.inl l7_3)]) (st' := [.inl ((dt41 71 1) + ((u2 dt41 72 (l7_3).toNat v_h40) 72 (l7_3).toNat)), .inr (.inr (some 71))]) (w' := (SH, (u2 dt41 72 (l7_3).toNat v_h40))) (fun _ => rfl) ?_
        have hI52 : InvC (u2 (u2 dt41 72 (l7_3).toNat v_h40) 71 1 ((dt41 71 1) + ((u2 dt41 72 (l7_3).toNat v_h40) 72 (l7_3).toNat))) := InvC_u2 hI47 (lo := 0) (hi := 792) rfl rfl rfl (by omega) (by omega)
        have hF53 : Fr [71, 72, 74] dt (u2 (u2 dt41 72 (l7_3).toNat v_h40) 71 1 ((dt41 71 1) + ((u2 dt41 72 (l7_3).toNat v_h40) 72 (l7_3).toNat))) := Fr_u2 hF48 (by decide)
        have w54 : (u2 (u2 dt41 72 (l7_3).toNat v_h40) 71 1 ((dt41 71 1) + ((u2 dt41 72 (l7_3).toNat v_h40) 72 (l7_3).toNat))) 71 1 = (dt41 71 1) + ((u2 dt41 72 (l7_3).toNat v_h40) 72 (l7_3).toNat) := rfl
        refine go_smp (L' := [some (.inr (.inr (some 71))), some (.inr (.inr (some 1))), some (.inl p2), some (.inl l7_3)]) (st' := []) (w' := (SH, (u2 (u2 dt41 72 (l7_3).toNat v_h40) 71 1 ((dt41 71 1) + ((u2 dt41 72 (l7_3).toNat v_h40) 72 (l7_3).toNat))))) rfl rfl (s_pf rfl rfl rfl rfl ⟨by omega, by omega⟩) ?_
        refine go_to (k := 2) (pc' := 7) (L' := [some (.inr (.inr (some 71))), some (.inr (.inr (some 1))), some (.inl p2), some (.inl (l7_3 + 1))]) (st' := []) (w' := (SH, (u2 (u2 dt41 72 (l7_3).toNat v_h40) 71 1 ((dt41 71 1) + ((u2 dt41 72 (l7_3).toNat v_h40) 72 (l7_3).toNat))))) (fun _ => rfl) ?_
        exact GO.le (ih_loop28 (l7_3 + 1) (u2 (u2 dt41 72 (l7_3).toNat v_h40) 71 1 ((dt41 71 1) + ((u2 dt41 72 (l7_3).toNat v_h40) 72 (l7_3).toNat))) hI52 hF53 (by first | omega | (intro r hr; omega) | exact wgt_s q0 (by omega) (fun j hj => by (repeat rw [u2_ne (by omega)]); exact hF43 72 (by decide) j) (by (repeat (first | rw [u2_eq] | rw [u2_ne (by omega)]))) wv46 | rfl) (by first | omega | (intro r hr; omega) | exact wgt_s q0 (by omega) (fun j hj => by (repeat rw [u2_ne (by omega)]); exact hF43 72 (by decide) j) (by (repeat (first | rw [u2_eq] | rw [u2_ne (by omega)]))) wv46 | rfl) (by first | omega | (intro r hr; omega) | exact wgt_s q0 (by omega) (fun j hj => by (repeat rw [u2_ne (by omega)]); exact hF43 72 (by decide) j) (by (repeat (first | rw [u2_eq] | rw [u2_ne (by omega)]))) wv46 | rfl) (by first | omega | (intro r hr; omega) | exact wgt_s q0 (by omega) (fun j hj => by (repeat rw [u2_ne (by omega)]); exact hF43 72 (by decide) j) (by (repeat (first | rw [u2_eq] | rw [u2_ne (by omega)]))) wv46 | rfl) (by omega)) ⟨.inl rfl, .inl rfl, .inl rfl, .inl rfl, trivial⟩
  exact GO.le (loop28 _ 0 (u2 dt 71 1 0) hI1 hF2 (by first | omega | (intro r hr; omega) | exact wgt_s q0 (by omega) (fun j hj => by (repeat rw [u2_ne (by omega)]); exact hF 72 (by decide) j) (by (repeat (first | rw [u2_eq] | rw [u2_ne (by omega)]))) hI | rfl) (by first | omega | (intro r hr; omega) | exact wgt_s q0 (by omega) (fun j hj => by (repeat rw [u2_ne (by omega)]); exact hF 72 (by decide) j) (by (repeat (first | rw [u2_eq] | rw [u2_ne (by omega)]))) hI | rfl) (by first | omega | (intro r hr; omega) | exact wgt_s q0 (by omega) (fun j hj => by (repeat rw [u2_ne (by omega)]); exact hF 72 (by decide) j) (by (repeat (first | rw [u2_eq] | rw [u2_ne (by omega)]))) hI | rfl) (by first | omega | (intro r hr; omega) | exact wgt_s q0 (by omega) (fun j hj => by (repeat rw [u2_ne (by omega)]); exact hF 72 (by decide) j) (by (repeat (first | rw [u2_eq] | rw [u2_ne (by omega)]))) hI | rfl) (Nat.lt_succ_self _)) ⟨.inl rfl, .inl rfl, .inl rfl, .inl rfl, trivial⟩
theorem chk_sp_X5_weigh_f (L : Nat) (xs : Nat → Int32) (sio : Option Nat) (d : Nat) (dt : Nat → Nat → Int) (hI : InvC dt) (F : Nat → Int) (hMF : MW F) (p1 : Int) (h_p1 : 0 ≤ p1 ∧ p1 ≤ 3) (p2 : Int) (h_p2 : 0 ≤ p2 ∧ p2 ≤ 39) (p3 : Int) (h_p3 : 0 ≤ p3 ∧ p3 ≤ 11) (p4 : Int) (h_p4 : 0 ≤ p4 ∧ p4 ≤ 3) (h_p0 : ALK dt F) (h_p1 : p2 < dt 10 3) (h_p2 : p3 < dt 7 3) : GO (am_XX L xs sio) (d + 4) 118 0 [some (.inr (.inr (some 0))), some (.inl p1), some (.inl p2), some (.inl p3), some (.inl p4)] [] (SH, dt) (fun r w2 => ∃ dt2 : Nat → Nat → Int, w2 = (SH, dt2) ∧ InvC dt2 ∧ Fr [71, 72, 73, 74] dt dt2 ∧ ((r = none ∧ (WGT (dt2 72) (dt2 71 1) F (FQ F p2 p3 p4) p1)))) := by
  have hF : Fr [71, 72, 73, 74] dt dt := Fr_refl
  have r1 : 0 ≤ dt 7 3 ∧ dt 7 3 ≤ 12 := InvC_get hI 7 3 rfl rfl
  have r2 : 0 ≤ dt 10 3 ∧ dt 10 3 ≤ 40 := InvC_get hI 10 3 rfl rfl
  have ec_ := ALK_c h_p0 (c := p2) (by omega)
  have eq_ := ALK_q h_p0 hMF (q := p3) (by omega)
  have hqo_ := QOC_R h_p0.2.1 hMF h_p0.2.2.2.2.1
  refine go_to (k := 8) (pc' := 14) (L' := [some (.inr (.inr (some 0))), some (.inl p1), some (.inl p2), some (.inl p3), some (.inl p4)]) (st' := [.inl 1, .inl p2, .inr (.inr (some 10)), .inl 0, .inr (.inr (some 71))]) (w' := (SH, dt)) (fun _ => rfl) ?_
  refine go_call (Q' := _) rfl rfl rfl rfl rfl (sp_X2_at_10_1 L xs sio (d + 2) dt hI  p2 ⟨by omega, by omega⟩ (by first | trivial | omega | exact hqo_ | assumption | (rw [show dt 10 3 = dt 10 3 from hF 10 (by decide) 3]; omega) | (rw [show dt 7 3 = dt 7 3 from hF 7 (by decide) 3]; omega) | (rw [show dt 8 = dt 8 from funext (hF 8 (by decide)), show dt 7 3 = dt 7 3 from hF 7 (by decide) 3]; exact hqo_) | exact h_p0.1 | (rw [show dt 4 = dt 4 from funext (hF 4 (by decide)), show dt 5 = dt 5 from funext (hF 5 (by decide)), show dt 6 = dt 6 from funext (hF 6 (by decide))]; exact h_p0.1))) ?_
  rintro _ _ ⟨rfl, h3⟩
  refine ⟨rfl, ?_⟩
  rcases h3 with ⟨rfl, h3⟩
  refine go_call (Q' := _) rfl rfl rfl rfl rfl (sp_X3_give_g0 L xs sio (d + 3) dt hI  (dt 11 (((p2 * 4) + 1)).toNat) ⟨by omega, by omega⟩ ) ?_
  rintro _ _ ⟨dt5, rfl, hI6, hF7, h4⟩
  refine ⟨rfl, ?_⟩
  have hF8 : Fr [71, 72, 73, 74] dt dt5 := Fr_tr hF hF7 (by decide)
  rcases h4 with ⟨rfl, h4⟩
  obtain ⟨h4_0, h4_1⟩ := h4
  have g9 := h4_1
  refine go_to (k := 8) (pc' := 34) (L' := [some (.inr (.inr (some 0))), some (.inl p1), some (.inl p2), some (.inl p3), some (.inl p4)]) (st' := [.inl 2, .inl p2, .inr (.inr (some 10)), .inl 1, .inr (.inr (some 71))]) (w' := (SH, dt5)) (fun _ => rfl) ?_
  refine go_call (Q' := _) rfl rfl rfl rfl rfl (sp_X2_at_10_2 L xs sio (d + 2) dt5 hI6  p2 ⟨by omega, by omega⟩ (by first | trivial | omega | exact hqo_ | assumption | (rw [show dt5 10 3 = dt 10 3 from hF8 10 (by decide) 3]; omega) | (rw [show dt5 7 3 = dt 7 3 from hF8 7 (by decide) 3]; omega) | (rw [show dt5 8 = dt 8 from funext (hF8 8 (by decide)), show dt5 7 3 = dt 7 3 from hF8 7 (by decide) 3]; exact hqo_) | exact h_p0.1 | (rw [show dt5 4 = dt 4 from funext (hF8 4 (by decide)), show dt5 5 = dt 5 from funext (hF8 5 (by decide)), show dt5 6 = dt 6 from funext (hF8 6 (by decide))]; exact h_p0.1))) ?_
  rintro _ _ ⟨rfl, h10⟩
  refine ⟨rfl, ?_⟩
  rcases h10 with ⟨rfl, h10⟩
  refine go_call (Q' := _) rfl rfl rfl rfl rfl (sp_X3_give_g1 L xs sio (d + 3) dt5 hI6  (dt5 11 (((p2 * 4) + 2)).toNat) ⟨by omega, by omega⟩ ) ?_
  rintro _ _ ⟨dt12, rfl, hI13, hF14, h11⟩
  refine ⟨rfl, ?_⟩
  have hF15 : Fr [71, 72, 73, 74] dt dt12 := Fr_tr hF8 hF14 (by decide)
  rcases h11 with ⟨rfl, h11⟩
  obtain ⟨h11_0, h11_1⟩ := h11
  have g16 := (h11_0 0 (by decide)).trans g9
  have g17 := h11_1.trans (hF8 11 (by decide) _)
  refine go_to (k := 4) (pc' := 47) (L' := [some (.inr (.inr (some 0))), some (.inl p1), some (.inl p2), some (.inl p3), some (.inl p4)]) (st' := [.inl p4, .inl 2, .inr (.inr (some 71))]) (w' := (SH, dt12)) (fun _ => rfl) ?_
  refine go_call (Q' := _) rfl rfl rfl rfl rfl (sp_X3_give_g2 L xs sio (d + 3) dt12 hI13  p4 ⟨by omega, by omega⟩ ) ?_
  rintro _ _ ⟨dt19, rfl, hI20, hF21, h18⟩
  refine ⟨rfl, ?_⟩
  have hF22 : Fr [71, 72, 73, 74] dt dt19 := Fr_tr hF15 hF21 (by decide)
  rcases h18 with ⟨rfl, h18⟩
  obtain ⟨h18_0, h18_1⟩ := h18
  have g23 := (h18_0 0 (by decide)).trans g16
  have g24 := (h18_0 1 (by decide)).trans g17
  have g25 := h18_1
  refine go_to (k := 7) (pc' := 62) (L' := [some (.inr (.inr (some 0))), some (.inl p1), some (.inl p2), some (.inl p3), some (.inl p4)]) (st' := [.inl 10, .inl p3, .inr (.inr (some 1)), .inl 3, .inr (.inr (some 71))]) (w' := (SH, dt19)) (fun _ => rfl) ?_
  refine go_call (Q' := _) rfl rfl rfl rfl rfl (sp_X0_saidOf_f L xs sio (d + 2) dt19 hI20  p3 ⟨by omega, by omega⟩ 10 ⟨by omega, by omega⟩ (by first | trivial | omega | exact hqo_ | assumption | (rw [show dt19 10 3 = dt 10 3 from hF22 10 (by decide) 3]; omega) | (rw [show dt19 7 3 = dt 7 3 from hF22 7 (by decide) 3]; omega) | (rw [show dt19 8 = dt 8 from funext (hF22 8 (by decide)), show dt19 7 3 = dt 7 3 from hF22 7 (by decide) 3]; exact hqo_) | exact h_p0.1 | (rw [show dt19 4 = dt 4 from funext (hF22 4 (by decide)), show dt19 5 = dt 5 from funext (hF22 5 (by decide)), show dt19 6 = dt 6 from funext (hF22 6 (by decide))]; exact h_p0.1))) ?_
  rintro _ _ ⟨rfl, h26⟩
  refine ⟨rfl, ?_⟩
  rcases h26 with ⟨rfl, h26⟩
  refine go_call (Q' := _) rfl rfl rfl rfl rfl (sp_X3_give_g3 L xs sio (d + 3) dt19 hI20  (dt19 9 (((p3 * 11) + 10)).toNat) ⟨by omega, by omega⟩ ) ?_
  rintro _ _ ⟨dt28, rfl, hI29, hF30, h27⟩
  refine ⟨rfl, ?_⟩
  have hF31 : Fr [71, 72, 73, 74] dt dt28 := Fr_tr hF22 hF30 (by decide)
  rcases h27 with ⟨rfl, h27⟩
  obtain ⟨h27_0, h27_1⟩ := h27
  have g32 := (h27_0 0 (by decide)).trans g23
  have g33 := (h27_0 1 (by decide)).trans g24
  have g34 := (h27_0 2 (by decide)).trans g25
  have g35 := h27_1.trans (hF22 9 (by decide) _)
  refine go_to (k := 8) (pc' := 82) (L' := [some (.inr (.inr (some 0))), some (.inl p1), some (.inl p2), some (.inl p3), some (.inl p4)]) (st' := [.inl 3, .inl p2, .inr (.inr (some 10)), .inl 4, .inr (.inr (some 71))]) (w' := (SH, dt28)) (fun _ => rfl) ?_
  refine go_call (Q' := _) rfl rfl rfl rfl rfl (sp_X2_at_10_3 L xs sio (d + 2) dt28 hI29  p2 ⟨by omega, by omega⟩ (by first | trivial | omega | exact hqo_ | assumption | (rw [show dt28 10 3 = dt 10 3 from hF31 10 (by decide) 3]; omega) | (rw [show dt28 7 3 = dt 7 3 from hF31 7 (by decide) 3]; omega) | (rw [show dt28 8 = dt 8 from funext (hF31 8 (by decide)), show dt28 7 3 = dt 7 3 from hF31 7 (by decide) 3]; exact hqo_) | exact h_p0.1 | (rw [show dt28 4 = dt 4 from funext (hF31 4 (by decide)), show dt28 5 = dt 5 from funext (hF31 5 (by decide)), show dt28 6 = dt 6 from funext (hF31 6 (by decide))]; exact h_p0.1))) ?_
  rintro _ _ ⟨rfl, h36⟩
  refine ⟨rfl, ?_⟩
  rcases h36 with ⟨rfl, h36⟩
  refine go_call (Q' := _) rfl rfl rfl rfl rfl (sp_X3_give_g4 L xs sio (d + 3) dt28 hI29  (dt28 11 (((p2 * 4) + 3)).toNat) ⟨by omega, by omega⟩ ) ?_
  rintro _ _ ⟨dt38, rfl, hI39, hF40, h37⟩
  refine ⟨rfl, ?_⟩
  have hF41 : Fr [71, 72, 73, 74] dt dt38 := Fr_tr hF31 hF40 (by decide)
  rcases h37 with ⟨rfl, h37⟩
  obtain ⟨h37_0, h37_1⟩ := h37
  have g42 := (h37_0 0 (by decide)).trans g32
  have g43 := (h37_0 1 (by decide)).trans g33
  have g44 := (h37_0 2 (by decide)).trans g34
  have g45 := (h37_0 3 (by decide)).trans g35
  have g46 := h37_1.trans (hF31 11 (by decide) _)
  refine go_to (k := 8) (pc' := 102) (L' := [some (.inr (.inr (some 0))), some (.inl p1), some (.inl p2), some (.inl p3), some (.inl p4)]) (st' := [.inl 1, .inl p3, .inr (.inr (some 7)), .inl 5, .inr (.inr (some 71))]) (w' := (SH, dt38)) (fun _ => rfl) ?_
  refine go_call (Q' := _) rfl rfl rfl rfl rfl (sp_X2_at_7_1 L xs sio (d + 2) dt38 hI39  p3 ⟨by omega, by omega⟩ (by first | trivial | omega | exact hqo_ | assumption | (rw [show dt38 10 3 = dt 10 3 from hF41 10 (by decide) 3]; omega) | (rw [show dt38 7 3 = dt 7 3 from hF41 7 (by decide) 3]; omega) | (rw [show dt38 8 = dt 8 from funext (hF41 8 (by decide)), show dt38 7 3 = dt 7 3 from hF41 7 (by decide) 3]; exact hqo_) | exact h_p0.1 | (rw [show dt38 4 = dt 4 from funext (hF41 4 (by decide)), show dt38 5 = dt 5 from funext (hF41 5 (by decide)), show dt38 6 = dt 6 from funext (hF41 6 (by decide))]; exact h_p0.1)) (by first | trivial | omega | exact hqo_ | assumption | (rw [show dt38 10 3 = dt 10 3 from hF41 10 (by decide) 3]; omega) | (rw [show dt38 7 3 = dt 7 3 from hF41 7 (by decide) 3]; omega) | (rw [show dt38 8 = dt 8 from funext (hF41 8 (by decide)), show dt38 7 3 = dt 7 3 from hF41 7 (by decide) 3]; exact hqo_) | exact h_p0.1 | (rw [show dt38 4 = dt 4 from funext (hF41 4 (by decide)), show dt38 5 = dt 5 from funext (hF41 5 (by decide)), show dt38 6 = dt 6 from funext (hF41 6 (by decide))]; exact h_p0.1))) ?_
  rintro _ _ ⟨rfl, h47⟩
  refine ⟨rfl, ?_⟩
  rcases h47 with ⟨rfl, h47⟩
  refine go_if (k := 2) (p1 := 113) (p2 := 109) (L' := [some (.inr (.inr (some 0))), some (.inl p1), some (.inl p2), some (.inl p3), some (.inl p4)]) (st' := [.inl 5, .inr (.inr (some 71))]) (w' := (SH, dt38)) (fun _ => rfl) (c_ne (a := dt38 8 (((p3 * 5) + 1)).toNat) (b := 1) ⟨by omega, by omega⟩ ⟨by omega, by omega⟩) (fun c48 => ?_) (fun c48 => ?_)
  · skip
    refine go_to (k := 1) (pc' := 114) (L' := [some (.inr (.inr (some 0))), some (.inl p1), some (.inl p2), some (.inl p3), some (.inl p4)]) (st' := [.inl 0, .inl 5, .inr (.inr (some 71))]) (w' := (SH, dt38)) (fun _ => rfl) ?_
    refine go_call (Q' := _) rfl rfl rfl rfl rfl (sp_X3_give_g5 L xs sio (d + 3) dt38 hI39  0 ⟨by omega, by omega⟩ ) ?_
    rintro _ _ ⟨dt50, rfl, hI51, hF52, h49⟩
    refine ⟨rfl, ?_⟩
    have hF53 : Fr [71, 72, 73, 74] dt dt50 := Fr_tr hF41 hF52 (by decide)
    rcases h49 with ⟨rfl, h49⟩
    obtain ⟨h49_0, h49_1⟩ := h49
    have g54 := (h49_0 0 (by decide)).trans g42
    have g55 := (h49_0 1 (by decide)).trans g43
    have g56 := (h49_0 2 (by decide)).trans g44
    have g57 := (h49_0 3 (by decide)).trans g45
    have g58 := (h49_0 4 (by decide)).trans g46
    have g59 := h49_1
    refine go_to (k := 5) (pc' := 126) (L' := [some (.inr (.inr (some 0))), some (.inl p1), some (.inl p2), some (.inl p3), some (.inl p4)]) (st' := [.inl p1, .inr (.inr (some 1)), .inr (.inr (some 71))]) (w' := (SH, dt50)) (fun _ => rfl) ?_
    refine go_call (Q' := _) rfl rfl rfl rfl rfl (sp_X3_weigh_f L xs sio (d + 0) dt50 hI51 F hMF p1 ⟨by omega, by omega⟩ (by first | trivial | omega | exact hqo_ | assumption | (rw [show dt50 10 3 = dt 10 3 from hF53 10 (by decide) 3]; omega) | (rw [show dt50 7 3 = dt 7 3 from hF53 7 (by decide) 3]; omega) | (rw [show dt50 8 = dt 8 from funext (hF53 8 (by decide)), show dt50 7 3 = dt 7 3 from hF53 7 (by decide) 3]; exact hqo_) | exact h_p0.1 | (rw [show dt50 4 = dt 4 from funext (hF53 4 (by decide)), show dt50 5 = dt 5 from funext (hF53 5 (by decide)), show dt50 6 = dt 6 from funext (hF53 6 (by decide))]; exact h_p0.1))) ?_
    rintro _ _ ⟨dt61, rfl, hI62, hF63, h60⟩
    refine ⟨rfl, ?_⟩
    have hF64 : Fr [71, 72, 73, 74] dt dt61 := Fr_tr hF53 hF63 (by decide)
    rcases h60 with ⟨rfl, h60⟩
    have wg65 := WGT_fa h60 (FQ_FAC (c := p2) (q := p3) (how := p4) (g54.trans ec_.2.1) (g55.trans ec_.2.2.1) g56 (g57.trans eq_.2.2) (g58.trans ec_.2.2.2) (g59.trans (by omega)))
    refine go_ret (k := 1) (r := none) (w1 := (SH, dt61)) (fun _ => rfl) ?_
    exact ⟨dt61, rfl, hI62, hF64, ⟨rfl, by exact wg65⟩⟩
  · skip
    refine go_to (k := 2) (pc' := 114) (L' := [some (.inr (.inr (some 0))), some (.inl p1), some (.inl p2), some (.inl p3), some (.inl p4)]) (st' := [.inl 1, .inl 5, .inr (.inr (some 71))]) (w' := (SH, dt38)) (fun _ => rfl) ?_
    refine go_call (Q' := _) rfl rfl rfl rfl rfl (sp_X3_give_g5 L xs sio (d + 3) dt38 hI39  1 ⟨by omega, by omega⟩ ) ?_
    rintro _ _ ⟨dt67, rfl, hI68, hF69, h66⟩
    refine ⟨rfl, ?_⟩
    have hF70 : Fr [71, 72, 73, 74] dt dt67 := Fr_tr hF41 hF69 (by decide)
    rcases h66 with ⟨rfl, h66⟩
    obtain ⟨h66_0, h66_1⟩ := h66
    have g71 := (h66_0 0 (by decide)).trans g42
    have g72 := (h66_0 1 (by decide)).trans g43
    have g73 := (h66_0 2 (by decide)).trans g44
    have g74 := (h66_0 3 (by decide)).trans g45
    have g75 := (h66_0 4 (by decide)).trans g46
    have g76 := h66_1
    refine go_to (k := 5) (pc' := 126) (L' := [some (.inr (.inr (some 0))), some (.inl p1), some (.inl p2), some (.inl p3), some (.inl p4)]) (st' := [.inl p1, .inr (.inr (some 1)), .inr (.inr (some 71))]) (w' := (SH, dt67)) (fun _ => rfl) ?_
    refine go_call (Q' := _) rfl rfl rfl rfl rfl (sp_X3_weigh_f L xs sio (d + 0) dt67 hI68 F hMF p1 ⟨by omega, by omega⟩ (by first | trivial | omega | exact hqo_ | assumption | (rw [show dt67 10 3 = dt 10 3 from hF70 10 (by decide) 3]; omega) | (rw [show dt67 7 3 = dt 7 3 from hF70 7 (by decide) 3]; omega) | (rw [show dt67 8 = dt 8 from funext (hF70 8 (by decide)), show dt67 7 3 = dt 7 3 from hF70 7 (by decide) 3]; exact hqo_) | exact h_p0.1 | (rw [show dt67 4 = dt 4 from funext (hF70 4 (by decide)), show dt67 5 = dt 5 from funext (hF70 5 (by decide)), show dt67 6 = dt 6 from funext (hF70 6 (by decide))]; exact h_p0.1))) ?_
    rintro _ _ ⟨dt78, rfl, hI79, hF80, h77⟩
    refine ⟨rfl, ?_⟩
    have hF81 : Fr [71, 72, 73, 74] dt dt78 := Fr_tr hF70 hF80 (by decide)
    rcases h77 with ⟨rfl, h77⟩
    have wg82 := WGT_fa h77 (FQ_FAC (c := p2) (q := p3) (how := p4) (g71.trans ec_.2.1) (g72.trans ec_.2.2.1) g73 (g74.trans eq_.2.2) (g75.trans ec_.2.2.2) (g76.trans (by omega)))
    refine go_ret (k := 1) (r := none) (w1 := (SH, dt78)) (fun _ => rfl) ?_
    exact ⟨dt78, rfl, hI79, hF81, ⟨rfl, by exact wg82⟩⟩
set_option maxRecDepth 20000 in
theorem chk_sp_X6_gathers_f (L : Nat) (xs : Nat → Int32) (sio : Option Nat) (d : Nat) (dt : Nat → Nat → Int) (hI : InvC dt) (hM : MW (dt 80))  (p1 : Int) (h_p1 : 0 ≤ p1 ∧ p1 ≤ 39) (p2 : Int) (h_p2 : 0 ≤ p2 ∧ p2 ≤ 11) (p3 : Int) (h_p3 : 0 ≤ p3 ∧ p3 ≤ 3)  : GO (am_XX L xs sio) (d + 5) 205 0 [some (.inr (.inr (some 79))), some (.inl p1), some (.inl p2), some (.inl p3)] [] (SH, dt) (fun r w2 => ∃ dt2 : Nat → Nat → Int, w2 = (SH, dt2) ∧ InvC dt2 ∧ Fr [87, 88, 89, 90, 91, 92, 93, 94, 95, 96, 97, 98, 99, 100] dt dt2 ∧ ((r = none ∧ (∀ s : Nat, 1 ≤ s → s ≤ 6 → dt2 87 s = FQ (dt 80) p1 p2 p3 s)))) := by
  have hF : Fr [87, 88, 89, 90, 91, 92, 93, 94, 95, 96, 97, 98, 99, 100] dt dt := Fr_refl
  have hq_ := MW_q hM p2 ⟨by omega, by omega⟩
  refine go_to (k := 4) (pc' := 4) (L' := [some (.inr (.inr (some 79))), some (.inl p1), some (.inl p2), some (.inl p3)]) (st' := [.inl 0, .inl p2, .inr (.inr (some 79)), .inr (.inr (some 79))]) (w' := (SH, dt)) (fun _ => rfl) ?_
  refine go_call (Q' := _) rfl rfl rfl rfl rfl (sp_X6_asked_0 L xs sio (d + 4) dt hI hM  p2 ⟨by omega, by omega⟩ ) ?_
  rintro _ _ ⟨rfl, h1⟩
  refine ⟨rfl, ?_⟩
  rcases h1 with ⟨rfl, h1⟩
  refine go_call (Q' := _) rfl rfl rfl rfl rfl (sp_X6_goes_w L xs sio (d + 0) dt hI hM  (dt 80 (((5320 + (5 * p2)) + 0)).toNat) ⟨by omega, by omega⟩ ) ?_
  rintro _ _ ⟨dt3, rfl, hI4, hF5, h2⟩
  refine ⟨rfl, ?_⟩
  have hF6 : Fr [87, 88, 89, 90, 91, 92, 93, 94, 95, 96, 97, 98, 99, 100] dt dt3 := Fr_tr hF hF5 (by decide)
  have w7 : dt3 87 1 = dt 87 1 := hF5 87 (by decide) 1
  have w8 : dt3 87 2 = dt 87 2 := hF5 87 (by decide) 2
  have w9 : dt3 87 3 = dt 87 3 := hF5 87 (by decide) 3
  have w10 : dt3 87 4 = dt 87 4 := hF5 87 (by decide) 4
  have w11 : dt3 87 5 = dt 87 5 := hF5 87 (by decide) 5
  have w12 : dt3 87 6 = dt 87 6 := hF5 87 (by decide) 6
  rcases h2 with ⟨rfl, h2⟩
  have we13 : VR dt3 = wend (dt 80) (dt 80 (5320 + 5 * p2.toNat)) := by rw [show 5320 + 5 * p2.toNat = (((5320 + (5 * p2)) + 0)).toNat by omega]; exact h2
  have wm0_ : wend (dt 80) (dt 80 (5320 + 5 * p2.toNat)) 6 0 = dt3 93 0 := by rw [← we13]; exact VR_r (f := 6) (by decide) (show 0 < 3 by decide)
  have wm1_ : wend (dt 80) (dt 80 (5320 + 5 * p2.toNat)) 6 1 = dt3 93 1 := by rw [← we13]; exact VR_r (f := 6) (by decide) (show 1 < 3 by decide)
  have wm2_ : wend (dt 80) (dt 80 (5320 + 5 * p2.toNat)) 6 2 = dt3 93 2 := by rw [← we13]; exact VR_r (f := 6) (by decide) (show 2 < 3 by decide)
  refine go_to (k := 6) (pc' := 18) (L' := [some (.inr (.inr (some 79))), some (.inl p1), some (.inl p2), some (.inl p3)]) (st' := [.inl 1, .inl p1, .inr (.inr (some 79)), .inl 1, .inr (.inr (some 87))]) (w' := (SH, dt3)) (fun _ => rfl) ?_
  refine go_call (Q' := _) rfl rfl rfl rfl rfl (sp_X6_ofChild_1 L xs sio (d + 4) dt3 hI4 (MW_fr hM hF6 (by decide))  p1 ⟨by omega, by omega⟩ ) ?_
  rintro _ _ ⟨rfl, h14⟩
  refine ⟨rfl, ?_⟩
  rcases h14 with ⟨rfl, h14⟩
  have ef15 : dt3 80 (((5380 + (4 * p1)) + 1)).toNat = dt 80 (((5380 + (4 * p1)) + 1)).toNat := hF6 80 (by decide) _
  have hI16 : InvC (u2 dt3 87 1 (dt3 80 (((5380 + (4 * p1)) + 1)).toNat)) := InvC_u2 hI4 (lo := -2147483648) (hi := 2147483647) rfl rfl rfl (by omega) (by omega)
  have hF17 : Fr [87, 88, 89, 90, 91, 92, 93, 94, 95, 96, 97, 98, 99, 100] dt (u2 dt3 87 1 (dt3 80 (((5380 + (4 * p1)) + 1)).toNat)) := Fr_u2 hF6 (by decide)
  have w18 : (u2 dt3 87 1 (dt3 80 (((5380 + (4 * p1)) + 1)).toNat)) 87 1 = dt3 80 (((5380 + (4 * p1)) + 1)).toNat := rfl
  have w19 : (u2 dt3 87 1 (dt3 80 (((5380 + (4 * p1)) + 1)).toNat)) 87 2 = dt3 87 2 := rfl
  have w20 : (u2 dt3 87 1 (dt3 80 (((5380 + (4 * p1)) + 1)).toNat)) 87 3 = dt3 87 3 := rfl
  have w21 : (u2 dt3 87 1 (dt3 80 (((5380 + (4 * p1)) + 1)).toNat)) 87 4 = dt3 87 4 := rfl
  have w22 : (u2 dt3 87 1 (dt3 80 (((5380 + (4 * p1)) + 1)).toNat)) 87 5 = dt3 87 5 := rfl
  have w23 : (u2 dt3 87 1 (dt3 80 (((5380 + (4 * p1)) + 1)).toNat)) 87 6 = dt3 87 6 := rfl
  refine go_smp (L' := [some (.inr (.inr (some 79))), some (.inl p1), some (.inl p2), some (.inl p3)]) (st' := []) (w' := (SH, (u2 dt3 87 1 (dt3 80 (((5380 + (4 * p1)) + 1)).toNat)))) rfl rfl (s_iast (n := 7) rfl ⟨by omega, by omega⟩ ⟨by omega, by omega⟩) ?_
  refine go_to (k := 6) (pc' := 30) (L' := [some (.inr (.inr (some 79))), some (.inl p1), some (.inl p2), some (.inl p3)]) (st' := [.inl 2, .inl p1, .inr (.inr (some 79)), .inl 2, .inr (.inr (some 87))]) (w' := (SH, (u2 dt3 87 1 (dt3 80 (((5380 + (4 * p1)) + 1)).toNat)))) (fun _ => rfl) ?_
  refine go_call (Q' := _) rfl rfl rfl rfl rfl (sp_X6_ofChild_2 L xs sio (d + 4) (u2 dt3 87 1 (dt3 80 (((5380 + (4 * p1)) + 1)).toNat)) hI16 (MW_fr hM hF17 (by decide))  p1 ⟨by omega, by omega⟩ ) ?_
  rintro _ _ ⟨rfl, h24⟩
  refine ⟨rfl, ?_⟩
  rcases h24 with ⟨rfl, h24⟩
  have ef25 : (u2 dt3 87 1 (dt3 80 (((5380 + (4 * p1)) + 1)).toNat)) 80 (((5380 + (4 * p1)) + 2)).toNat = dt 80 (((5380 + (4 * p1)) + 2)).toNat := hF17 80 (by decide) _
  have hI26 : InvC (u2 (u2 dt3 87 1 (dt3 80 (((5380 + (4 * p1)) + 1)).toNat)) 87 2 ((u2 dt3 87 1 (dt3 80 (((5380 + (4 * p1)) + 1)).toNat)) 80 (((5380 + (4 * p1)) + 2)).toNat)) := InvC_u2 hI16 (lo := -2147483648) (hi := 2147483647) rfl rfl rfl (by omega) (by omega)
  have hF27 : Fr [87, 88, 89, 90, 91, 92, 93, 94, 95, 96, 97, 98, 99, 100] dt (u2 (u2 dt3 87 1 (dt3 80 (((5380 + (4 * p1)) + 1)).toNat)) 87 2 ((u2 dt3 87 1 (dt3 80 (((5380 + (4 * p1)) + 1)).toNat)) 80 (((5380 + (4 * p1)) + 2)).toNat)) := Fr_u2 hF17 (by decide)
  have w28 : (u2 (u2 dt3 87 1 (dt3 80 (((5380 + (4 * p1)) + 1)).toNat)) 87 2 ((u2 dt3 87 1 (dt3 80 (((5380 + (4 * p1)) + 1)).toNat)) 80 (((5380 + (4 * p1)) + 2)).toNat)) 87 1 = (u2 dt3 87 1 (dt3 80 (((5380 + (4 * p1)) + 1)).toNat)) 87 1 := rfl
  have w29 : (u2 (u2 dt3 87 1 (dt3 80 (((5380 + (4 * p1)) + 1)).toNat)) 87 2 ((u2 dt3 87 1 (dt3 80 (((5380 + (4 * p1)) + 1)).toNat)) 80 (((5380 + (4 * p1)) + 2)).toNat)) 87 2 = (u2 dt3 87 1 (dt3 80 (((5380 + (4 * p1)) + 1)).toNat)) 80 (((5380 + (4 * p1)) + 2)).toNat := rfl
  have w30 : (u2 (u2 dt3 87 1 (dt3 80 (((5380 + (4 * p1)) + 1)).toNat)) 87 2 ((u2 dt3 87 1 (dt3 80 (((5380 + (4 * p1)) + 1)).toNat)) 80 (((5380 + (4 * p1)) + 2)).toNat)) 87 3 = (u2 dt3 87 1 (dt3 80 (((5380 + (4 * p1)) + 1)).toNat)) 87 3 := rfl
  have w31 : (u2 (u2 dt3 87 1 (dt3 80 (((5380 + (4 * p1)) + 1)).toNat)) 87 2 ((u2 dt3 87 1 (dt3 80 (((5380 + (4 * p1)) + 1)).toNat)) 80 (((5380 + (4 * p1)) + 2)).toNat)) 87 4 = (u2 dt3 87 1 (dt3 80 (((5380 + (4 * p1)) + 1)).toNat)) 87 4 := rfl
  have w32 : (u2 (u2 dt3 87 1 (dt3 80 (((5380 + (4 * p1)) + 1)).toNat)) 87 2 ((u2 dt3 87 1 (dt3 80 (((5380 + (4 * p1)) + 1)).toNat)) 80 (((5380 + (4 * p1)) + 2)).toNat)) 87 5 = (u2 dt3 87 1 (dt3 80 (((5380 + (4 * p1)) + 1)).toNat)) 87 5 := rfl
  have w33 : (u2 (u2 dt3 87 1 (dt3 80 (((5380 + (4 * p1)) + 1)).toNat)) 87 2 ((u2 dt3 87 1 (dt3 80 (((5380 + (4 * p1)) + 1)).toNat)) 80 (((5380 + (4 * p1)) + 2)).toNat)) 87 6 = (u2 dt3 87 1 (dt3 80 (((5380 + (4 * p1)) + 1)).toNat)) 87 6 := rfl
  refine go_smp (L' := [some (.inr (.inr (some 79))), some (.inl p1), some (.inl p2), some (.inl p3)]) (st' := []) (w' := (SH, (u2 (u2 dt3 87 1 (dt3 80 (((5380 + (4 * p1)) + 1)).toNat)) 87 2 ((u2 dt3 87 1 (dt3 80 (((5380 + (4 * p1)) + 1)).toNat)) 80 (((5380 + (4 * p1)) + 2)).toNat)))) rfl rfl (s_iast (n := 7) rfl ⟨by omega, by omega⟩ ⟨by omega, by omega⟩) ?_
  refine go_to (k := 6) (pc' := 42) (L' := [some (.inr (.inr (some 79))), some (.inl p1), some (.inl p2), some (.inl p3)]) (st' := [.inl 3, .inl p1, .inr (.inr (some 79)), .inl 5, .inr (.inr (some 87))]) (w' := (SH, (u2 (u2 dt3 87 1 (dt3 80 (((5380 + (4 * p1)) + 1)).toNat)) 87 2 ((u2 dt3 87 1 (dt3 80 (((5380 + (4 * p1)) + 1)).toNat)) 80 (((5380 + (4 * p1)) + 2)).toNat)))) (fun _ => rfl) ?_
  refine go_call (Q' := _) rfl rfl rfl rfl rfl (sp_X6_ofChild_3 L xs sio (d + 4) (u2 (u2 dt3 87 1 (dt3 80 (((5380 + (4 * p1)) + 1)).toNat)) 87 2 ((u2 dt3 87 1 (dt3 80 (((5380 + (4 * p1)) + 1)).toNat)) 80 (((5380 + (4 * p1)) + 2)).toNat)) hI26 (MW_fr hM hF27 (by decide))  p1 ⟨by omega, by omega⟩ ) ?_
  rintro _ _ ⟨rfl, h34⟩
  refine ⟨rfl, ?_⟩
  rcases h34 with ⟨rfl, h34⟩
  have ef35 : (u2 (u2 dt3 87 1 (dt3 80 (((5380 + (4 * p1)) + 1)).toNat)) 87 2 ((u2 dt3 87 1 (dt3 80 (((5380 + (4 * p1)) + 1)).toNat)) 80 (((5380 + (4 * p1)) + 2)).toNat)) 80 (((5380 + (4 * p1)) + 3)).toNat = dt 80 (((5380 + (4 * p1)) + 3)).toNat := hF27 80 (by decide) _
  have hI36 : InvC (u2 (u2 (u2 dt3 87 1 (dt3 80 (((5380 + (4 * p1)) + 1)).toNat)) 87 2 ((u2 dt3 87 1 (dt3 80 (((5380 + (4 * p1)) + 1)).toNat)) 80 (((5380 + (4 * p1)) + 2)).toNat)) 87 5 ((u2 (u2 dt3 87 1 (dt3 80 (((5380 + (4 * p1)) + 1)).toNat)) 87 2 ((u2 dt3 87 1 (dt3 80 (((5380 + (4 * p1)) + 1)).toNat)) 80 (((5380 + (4 * p1)) + 2)).toNat)) 80 (((5380 + (4 * p1)) + 3)).toNat)) := InvC_u2 hI26 (lo := -2147483648) (hi := 2147483647) rfl rfl rfl (by omega) (by omega)
  have hF37 : Fr [87, 88, 89, 90, 91, 92, 93, 94, 95, 96, 97, 98, 99, 100] dt (u2 (u2 (u2 dt3 87 1 (dt3 80 (((5380 + (4 * p1)) + 1)).toNat)) 87 2 ((u2 dt3 87 1 (dt3 80 (((5380 + (4 * p1)) + 1)).toNat)) 80 (((5380 + (4 * p1)) + 2)).toNat)) 87 5 ((u2 (u2 dt3 87 1 (dt3 80 (((5380 + (4 * p1)) + 1)).toNat)) 87 2 ((u2 dt3 87 1 (dt3 80 (((5380 + (4 * p1)) + 1)).toNat)) 80 (((5380 + (4 * p1)) + 2)).toNat)) 80 (((5380 + (4 * p1)) + 3)).toNat)) := Fr_u2 hF27 (by decide)
  have w38 : (u2 (u2 (u2 dt3 87 1 (dt3 80 (((5380 + (4 * p1)) + 1)).toNat)) 87 2 ((u2 dt3 87 1 (dt3 80 (((5380 + (4 * p1)) + 1)).toNat)) 80 (((5380 + (4 * p1)) + 2)).toNat)) 87 5 ((u2 (u2 dt3 87 1 (dt3 80 (((5380 + (4 * p1)) + 1)).toNat)) 87 2 ((u2 dt3 87 1 (dt3 80 (((5380 + (4 * p1)) + 1)).toNat)) 80 (((5380 + (4 * p1)) + 2)).toNat)) 80 (((5380 + (4 * p1)) + 3)).toNat)) 87 1 = (u2 (u2 dt3 87 1 (dt3 80 (((5380 + (4 * p1)) + 1)).toNat)) 87 2 ((u2 dt3 87 1 (dt3 80 (((5380 + (4 * p1)) + 1)).toNat)) 80 (((5380 + (4 * p1)) + 2)).toNat)) 87 1 := rfl
  have w39 : (u2 (u2 (u2 dt3 87 1 (dt3 80 (((5380 + (4 * p1)) + 1)).toNat)) 87 2 ((u2 dt3 87 1 (dt3 80 (((5380 + (4 * p1)) + 1)).toNat)) 80 (((5380 + (4 * p1)) + 2)).toNat)) 87 5 ((u2 (u2 dt3 87 1 (dt3 80 (((5380 + (4 * p1)) + 1)).toNat)) 87 2 ((u2 dt3 87 1 (dt3 80 (((5380 + (4 * p1)) + 1)).toNat)) 80 (((5380 + (4 * p1)) + 2)).toNat)) 80 (((5380 + (4 * p1)) + 3)).toNat)) 87 2 = (u2 (u2 dt3 87 1 (dt3 80 (((5380 + (4 * p1)) + 1)).toNat)) 87 2 ((u2 dt3 87 1 (dt3 80 (((5380 + (4 * p1)) + 1)).toNat)) 80 (((5380 + (4 * p1)) + 2)).toNat)) 87 2 := rfl
  have w40 : (u2 (u2 (u2 dt3 87 1 (dt3 80 (((5380 + (4 * p1)) + 1)).toNat)) 87 2 ((u2 dt3 87 1 (dt3 80 (((5380 + (4 * p1)) + 1)).toNat)) 80 (((5380 + (4 * p1)) + 2)).toNat)) 87 5 ((u2 (u2 dt3 87 1 (dt3 80 (((5380 + (4 * p1)) + 1)).toNat)) 87 2 ((u2 dt3 87 1 (dt3 80 (((5380 + (4 * p1)) + 1)).toNat)) 80 (((5380 + (4 * p1)) + 2)).toNat)) 80 (((5380 + (4 * p1)) + 3)).toNat)) 87 3 = (u2 (u2 dt3 87 1 (dt3 80 (((5380 + (4 * p1)) + 1)).toNat)) 87 2 ((u2 dt3 87 1 (dt3 80 (((5380 + (4 * p1)) + 1)).toNat)) 80 (((5380 + (4 * p1)) + 2)).toNat)) 87 3 := rfl
  have w41 : (u2 (u2 (u2 dt3 87 1 (dt3 80 (((5380 + (4 * p1)) + 1)).toNat)) 87 2 ((u2 dt3 87 1 (dt3 80 (((5380 + (4 * p1)) + 1)).toNat)) 80 (((5380 + (4 * p1)) + 2)).toNat)) 87 5 ((u2 (u2 dt3 87 1 (dt3 80 (((5380 + (4 * p1)) + 1)).toNat)) 87 2 ((u2 dt3 87 1 (dt3 80 (((5380 + (4 * p1)) + 1)).toNat)) 80 (((5380 + (4 * p1)) + 2)).toNat)) 80 (((5380 + (4 * p1)) + 3)).toNat)) 87 4 = (u2 (u2 dt3 87 1 (dt3 80 (((5380 + (4 * p1)) + 1)).toNat)) 87 2 ((u2 dt3 87 1 (dt3 80 (((5380 + (4 * p1)) + 1)).toNat)) 80 (((5380 + (4 * p1)) + 2)).toNat)) 87 4 := rfl
  have w42 : (u2 (u2 (u2 dt3 87 1 (dt3 80 (((5380 + (4 * p1)) + 1)).toNat)) 87 2 ((u2 dt3 87 1 (dt3 80 (((5380 + (4 * p1)) + 1)).toNat)) 80 (((5380 + (4 * p1)) + 2)).toNat)) 87 5 ((u2 (u2 dt3 87 1 (dt3 80 (((5380 + (4 * p1)) + 1)).toNat)) 87 2 ((u2 dt3 87 1 (dt3 80 (((5380 + (4 * p1)) + 1)).toNat)) 80 (((5380 + (4 * p1)) + 2)).toNat)) 80 (((5380 + (4 * p1)) + 3)).toNat)) 87 5 = (u2 (u2 dt3 87 1 (dt3 80 (((5380 + (4 * p1)) + 1)).toNat)) 87 2 ((u2 dt3 87 1 (dt3 80 (((5380 + (4 * p1)) + 1)).toNat)) 80 (((5380 + (4 * p1)) + 2)).toNat)) 80 (((5380 + (4 * p1)) + 3)).toNat := rfl
  have w43 : (u2 (u2 (u2 dt3 87 1 (dt3 80 (((5380 + (4 * p1)) + 1)).toNat)) 87 2 ((u2 dt3 87 1 (dt3 80 (((5380 + (4 * p1)) + 1)).toNat)) 80 (((5380 + (4 * p1)) + 2)).toNat)) 87 5 ((u2 (u2 dt3 87 1 (dt3 80 (((5380 + (4 * p1)) + 1)).toNat)) 87 2 ((u2 dt3 87 1 (dt3 80 (((5380 + (4 * p1)) + 1)).toNat)) 80 (((5380 + (4 * p1)) + 2)).toNat)) 80 (((5380 + (4 * p1)) + 3)).toNat)) 87 6 = (u2 (u2 dt3 87 1 (dt3 80 (((5380 + (4 * p1)) + 1)).toNat)) 87 2 ((u2 dt3 87 1 (dt3 80 (((5380 + (4 * p1)) + 1)).toNat)) 80 (((5380 + (4 * p1)) + 2)).toNat)) 87 6 := rfl
  refine go_smp (L' := [some (.inr (.inr (some 79))), some (.inl p1), some (.inl p2), some (.inl p3)]) (st' := []) (w' := (SH, (u2 (u2 (u2 dt3 87 1 (dt3 80 (((5380 + (4 * p1)) + 1)).toNat)) 87 2 ((u2 dt3 87 1 (dt3 80 (((5380 + (4 * p1)) + 1)).toNat)) 80 (((5380 + (4 * p1)) + 2)).toNat)) 87 5 ((u2 (u2 dt3 87 1 (dt3 80 (((5380 + (4 * p1)) + 1)).toNat)) 87 2 ((u2 dt3 87 1 (dt3 80 (((5380 + (4 * p1)) + 1)).toNat)) 80 (((5380 + (4 * p1)) + 2)).toNat)) 80 (((5380 + (4 * p1)) + 3)).toNat)))) rfl rfl (s_iast (n := 7) rfl ⟨by omega, by omega⟩ ⟨by omega, by omega⟩) ?_
  refine go_to (k := 4) (pc' := 52) (L' := [some (.inr (.inr (some 79))), some (.inl p1), some (.inl p2), some (.inl p3)]) (st' := [.inl p3, .inl 3, .inr (.inr (some 87))]) (w' := (SH, (u2 (u2 (u2 dt3 87 1 (dt3 80 (((5380 + (4 * p1)) + 1)).toNat)) 87 2 ((u2 dt3 87 1 (dt3 80 (((5380 + (4 * p1)) + 1)).toNat)) 80 (((5380 + (4 * p1)) + 2)).toNat)) 87 5 ((u2 (u2 dt3 87 1 (dt3 80 (((5380 + (4 * p1)) + 1)).toNat)) 87 2 ((u2 dt3 87 1 (dt3 80 (((5380 + (4 * p1)) + 1)).toNat)) 80 (((5380 + (4 * p1)) + 2)).toNat)) 80 (((5380 + (4 * p1)) + 3)).toNat)))) (fun _ => rfl) ?_
  have hI44 : InvC (u2 (u2 (u2 (u2 dt3 87 1 (dt3 80 (((5380 + (4 * p1)) + 1)).toNat)) 87 2 ((u2 dt3 87 1 (dt3 80 (((5380 + (4 * p1)) + 1)).toNat)) 80 (((5380 + (4 * p1)) + 2)).toNat)) 87 5 ((u2 (u2 dt3 87 1 (dt3 80 (((5380 + (4 * p1)) + 1)).toNat)) 87 2 ((u2 dt3 87 1 (dt3 80 (((5380 + (4 * p1)) + 1)).toNat)) 80 (((5380 + (4 * p1)) + 2)).toNat)) 80 (((5380 + (4 * p1)) + 3)).toNat)) 87 3 p3) := InvC_u2 hI36 (lo := -2147483648) (hi := 2147483647) rfl rfl rfl (by omega) (by omega)
  have hF45 : Fr [87, 88, 89, 90, 91, 92, 93, 94, 95, 96, 97, 98, 99, 100] dt (u2 (u2 (u2 (u2 dt3 87 1 (dt3 80 (((5380 + (4 * p1)) + 1)).toNat)) 87 2 ((u2 dt3 87 1 (dt3 80 (((5380 + (4 * p1)) + 1)).toNat)) 80 (((5380 + (4 * p1)) + 2)).toNat)) 87 5 ((u2 (u2 dt3 87 1 (dt3 80 (((5380 + (4 * p1)) + 1)).toNat)) 87 2 ((u2 dt3 87 1 (dt3 80 (((5380 + (4 * p1)) + 1)).toNat)) 80 (((5380 + (4 * p1)) + 2)).toNat)) 80 (((5380 + (4 * p1)) + 3)).toNat)) 87 3 p3) := Fr_u2 hF37 (by decide)
  have w46 : (u2 (u2 (u2 (u2 dt3 87 1 (dt3 80 (((5380 + (4 * p1)) + 1)).toNat)) 87 2 ((u2 dt3 87 1 (dt3 80 (((5380 + (4 * p1)) + 1)).toNat)) 80 (((5380 + (4 * p1)) + 2)).toNat)) 87 5 ((u2 (u2 dt3 87 1 (dt3 80 (((5380 + (4 * p1)) + 1)).toNat)) 87 2 ((u2 dt3 87 1 (dt3 80 (((5380 + (4 * p1)) + 1)).toNat)) 80 (((5380 + (4 * p1)) + 2)).toNat)) 80 (((5380 + (4 * p1)) + 3)).toNat)) 87 3 p3) 87 1 = (u2 (u2 (u2 dt3 87 1 (dt3 80 (((5380 + (4 * p1)) + 1)).toNat)) 87 2 ((u2 dt3 87 1 (dt3 80 (((5380 + (4 * p1)) + 1)).toNat)) 80 (((5380 + (4 * p1)) + 2)).toNat)) 87 5 ((u2 (u2 dt3 87 1 (dt3 80 (((5380 + (4 * p1)) + 1)).toNat)) 87 2 ((u2 dt3 87 1 (dt3 80 (((5380 + (4 * p1)) + 1)).toNat)) 80 (((5380 + (4 * p1)) + 2)).toNat)) 80 (((5380 + (4 * p1)) + 3)).toNat)) 87 1 := rfl
  have w47 : (u2 (u2 (u2 (u2 dt3 87 1 (dt3 80 (((5380 + (4 * p1)) + 1)).toNat)) 87 2 ((u2 dt3 87 1 (dt3 80 (((5380 + (4 * p1)) + 1)).toNat)) 80 (((5380 + (4 * p1)) + 2)).toNat)) 87 5 ((u2 (u2 dt3 87 1 (dt3 80 (((5380 + (4 * p1)) + 1)).toNat)) 87 2 ((u2 dt3 87 1 (dt3 80 (((5380 + (4 * p1)) + 1)).toNat)) 80 (((5380 + (4 * p1)) + 2)).toNat)) 80 (((5380 + (4 * p1)) + 3)).toNat)) 87 3 p3) 87 2 = (u2 (u2 (u2 dt3 87 1 (dt3 80 (((5380 + (4 * p1)) + 1)).toNat)) 87 2 ((u2 dt3 87 1 (dt3 80 (((5380 + (4 * p1)) + 1)).toNat)) 80 (((5380 + (4 * p1)) + 2)).toNat)) 87 5 ((u2 (u2 dt3 87 1 (dt3 80 (((5380 + (4 * p1)) + 1)).toNat)) 87 2 ((u2 dt3 87 1 (dt3 80 (((5380 + (4 * p1)) + 1)).toNat)) 80 (((5380 + (4 * p1)) + 2)).toNat)) 80 (((5380 + (4 * p1)) + 3)).toNat)) 87 2 := rfl
  have w48 : (u2 (u2 (u2 (u2 dt3 87 1 (dt3 80 (((5380 + (4 * p1)) + 1)).toNat)) 87 2 ((u2 dt3 87 1 (dt3 80 (((5380 + (4 * p1)) + 1)).toNat)) 80 (((5380 + (4 * p1)) + 2)).toNat)) 87 5 ((u2 (u2 dt3 87 1 (dt3 80 (((5380 + (4 * p1)) + 1)).toNat)) 87 2 ((u2 dt3 87 1 (dt3 80 (((5380 + (4 * p1)) + 1)).toNat)) 80 (((5380 + (4 * p1)) + 2)).toNat)) 80 (((5380 + (4 * p1)) + 3)).toNat)) 87 3 p3) 87 3 = p3 := rfl
  have w49 : (u2 (u2 (u2 (u2 dt3 87 1 (dt3 80 (((5380 + (4 * p1)) + 1)).toNat)) 87 2 ((u2 dt3 87 1 (dt3 80 (((5380 + (4 * p1)) + 1)).toNat)) 80 (((5380 + (4 * p1)) + 2)).toNat)) 87 5 ((u2 (u2 dt3 87 1 (dt3 80 (((5380 + (4 * p1)) + 1)).toNat)) 87 2 ((u2 dt3 87 1 (dt3 80 (((5380 + (4 * p1)) + 1)).toNat)) 80 (((5380 + (4 * p1)) + 2)).toNat)) 80 (((5380 + (4 * p1)) + 3)).toNat)) 87 3 p3) 87 4 = (u2 (u2 (u2 dt3 87 1 (dt3 80 (((5380 + (4 * p1)) + 1)).toNat)) 87 2 ((u2 dt3 87 1 (dt3 80 (((5380 + (4 * p1)) + 1)).toNat)) 80 (((5380 + (4 * p1)) + 2)).toNat)) 87 5 ((u2 (u2 dt3 87 1 (dt3 80 (((5380 + (4 * p1)) + 1)).toNat)) 87 2 ((u2 dt3 87 1 (dt3 80 (((5380 + (4 * p1)) + 1)).toNat)) 80 (((5380 + (4 * p1)) + 2)).toNat)) 80 (((5380 + (4 * p1)) + 3)).toNat)) 87 4 := rfl
  have w50 : (u2 (u2 (u2 (u2 dt3 87 1 (dt3 80 (((5380 + (4 * p1)) + 1)).toNat)) 87 2 ((u2 dt3 87 1 (dt3 80 (((5380 + (4 * p1)) + 1)).toNat)) 80 (((5380 + (4 * p1)) + 2)).toNat)) 87 5 ((u2 (u2 dt3 87 1 (dt3 80 (((5380 + (4 * p1)) + 1)).toNat)) 87 2 ((u2 dt3 87 1 (dt3 80 (((5380 + (4 * p1)) + 1)).toNat)) 80 (((5380 + (4 * p1)) + 2)).toNat)) 80 (((5380 + (4 * p1)) + 3)).toNat)) 87 3 p3) 87 5 = (u2 (u2 (u2 dt3 87 1 (dt3 80 (((5380 + (4 * p1)) + 1)).toNat)) 87 2 ((u2 dt3 87 1 (dt3 80 (((5380 + (4 * p1)) + 1)).toNat)) 80 (((5380 + (4 * p1)) + 2)).toNat)) 87 5 ((u2 (u2 dt3 87 1 (dt3 80 (((5380 + (4 * p1)) + 1)).toNat)) 87 2 ((u2 dt3 87 1 (dt3 80 (((5380 + (4 * p1)) + 1)).toNat)) 80 (((5380 + (4 * p1)) + 2)).toNat)) 80 (((5380 + (4 * p1)) + 3)).toNat)) 87 5 := rfl
  have w51 : (u2 (u2 (u2 (u2 dt3 87 1 (dt3 80 (((5380 + (4 * p1)) + 1)).toNat)) 87 2 ((u2 dt3 87 1 (dt3 80 (((5380 + (4 * p1)) + 1)).toNat)) 80 (((5380 + (4 * p1)) + 2)).toNat)) 87 5 ((u2 (u2 dt3 87 1 (dt3 80 (((5380 + (4 * p1)) + 1)).toNat)) 87 2 ((u2 dt3 87 1 (dt3 80 (((5380 + (4 * p1)) + 1)).toNat)) 80 (((5380 + (4 * p1)) + 2)).toNat)) 80 (((5380 + (4 * p1)) + 3)).toNat)) 87 3 p3) 87 6 = (u2 (u2 (u2 dt3 87 1 (dt3 80 (((5380 + (4 * p1)) + 1)).toNat)) 87 2 ((u2 dt3 87 1 (dt3 80 (((5380 + (4 * p1)) + 1)).toNat)) 80 (((5380 + (4 * p1)) + 2)).toNat)) 87 5 ((u2 (u2 dt3 87 1 (dt3 80 (((5380 + (4 * p1)) + 1)).toNat)) 87 2 ((u2 dt3 87 1 (dt3 80 (((5380 + (4 * p1)) + 1)).toNat)) 80 (((5380 + (4 * p1)) + 2)).toNat)) 80 (((5380 + (4 * p1)) + 3)).toNat)) 87 6 := rfl
  refine go_smp (L' := [some (.inr (.inr (some 79))), some (.inl p1), some (.inl p2), some (.inl p3)]) (st' := []) (w' := (SH, (u2 (u2 (u2 (u2 dt3 87 1 (dt3 80 (((5380 + (4 * p1)) + 1)).toNat)) 87 2 ((u2 dt3 87 1 (dt3 80 (((5380 + (4 * p1)) + 1)).toNat)) 80 (((5380 + (4 * p1)) + 2)).toNat)) 87 5 ((u2 (u2 dt3 87 1 (dt3 80 (((5380 + (4 * p1)) + 1)).toNat)) 87 2 ((u2 dt3 87 1 (dt3 80 (((5380 + (4 * p1)) + 1)).toNat)) 80 (((5380 + (4 * p1)) + 2)).toNat)) 80 (((5380 + (4 * p1)) + 3)).toNat)) 87 3 p3))) rfl rfl (s_iast (n := 7) rfl ⟨by omega, by omega⟩ ⟨by omega, by omega⟩) ?_
  refine go_to (k := 6) (pc' := 63) (L' := [some (.inr (.inr (some 79))), some (.inl p1), some (.inl p2), some (.inl p3)]) (st' := [.inl 0, .inr (.inr (some 93)), .inl 4, .inr (.inr (some 87))]) (w' := (SH, (u2 (u2 (u2 (u2 dt3 87 1 (dt3 80 (((5380 + (4 * p1)) + 1)).toNat)) 87 2 ((u2 dt3 87 1 (dt3 80 (((5380 + (4 * p1)) + 1)).toNat)) 80 (((5380 + (4 * p1)) + 2)).toNat)) 87 5 ((u2 (u2 dt3 87 1 (dt3 80 (((5380 + (4 * p1)) + 1)).toNat)) 87 2 ((u2 dt3 87 1 (dt3 80 (((5380 + (4 * p1)) + 1)).toNat)) 80 (((5380 + (4 * p1)) + 2)).toNat)) 80 (((5380 + (4 * p1)) + 3)).toNat)) 87 3 p3))) (fun _ => rfl) ?_
  have r52 : (-2147483648) ≤ dt3 93 0 ∧ dt3 93 0 ≤ 2147483647 := InvC_get hI4 93 0 rfl rfl
  refine go_smp (L' := [some (.inr (.inr (some 79))), some (.inl p1), some (.inl p2), some (.inl p3)]) (st' := [.inl (dt3 93 0), .inl 4, .inr (.inr (some 87))]) (w' := (SH, (u2 (u2 (u2 (u2 dt3 87 1 (dt3 80 (((5380 + (4 * p1)) + 1)).toNat)) 87 2 ((u2 dt3 87 1 (dt3 80 (((5380 + (4 * p1)) + 1)).toNat)) 80 (((5380 + (4 * p1)) + 2)).toNat)) 87 5 ((u2 (u2 dt3 87 1 (dt3 80 (((5380 + (4 * p1)) + 1)).toNat)) 87 2 ((u2 dt3 87 1 (dt3 80 (((5380 + (4 * p1)) + 1)).toNat)) 80 (((5380 + (4 * p1)) + 2)).toNat)) 80 (((5380 + (4 * p1)) + 3)).toNat)) 87 3 p3))) rfl rfl (s_iald (n := 3) (f := (u2 (u2 (u2 (u2 dt3 87 1 (dt3 80 (((5380 + (4 * p1)) + 1)).toNat)) 87 2 ((u2 dt3 87 1 (dt3 80 (((5380 + (4 * p1)) + 1)).toNat)) 80 (((5380 + (4 * p1)) + 2)).toNat)) 87 5 ((u2 (u2 dt3 87 1 (dt3 80 (((5380 + (4 * p1)) + 1)).toNat)) 87 2 ((u2 dt3 87 1 (dt3 80 (((5380 + (4 * p1)) + 1)).toNat)) 80 (((5380 + (4 * p1)) + 2)).toNat)) 80 (((5380 + (4 * p1)) + 3)).toNat)) 87 3 p3) 93) rfl ⟨by omega, by omega⟩) ?_
  refine go_to (k := 3) (pc' := 69) (L' := [some (.inr (.inr (some 79))), some (.inl p1), some (.inl p2), some (.inl p3)]) (st' := [.inl 1, .inr (.inr (some 93)), .inl (dt3 93 0), .inl 4, .inr (.inr (some 87))]) (w' := (SH, (u2 (u2 (u2 (u2 dt3 87 1 (dt3 80 (((5380 + (4 * p1)) + 1)).toNat)) 87 2 ((u2 dt3 87 1 (dt3 80 (((5380 + (4 * p1)) + 1)).toNat)) 80 (((5380 + (4 * p1)) + 2)).toNat)) 87 5 ((u2 (u2 dt3 87 1 (dt3 80 (((5380 + (4 * p1)) + 1)).toNat)) 87 2 ((u2 dt3 87 1 (dt3 80 (((5380 + (4 * p1)) + 1)).toNat)) 80 (((5380 + (4 * p1)) + 2)).toNat)) 80 (((5380 + (4 * p1)) + 3)).toNat)) 87 3 p3))) (fun _ => rfl) ?_
  have r53 : (-2147483648) ≤ dt3 93 1 ∧ dt3 93 1 ≤ 2147483647 := InvC_get hI4 93 1 rfl rfl
  refine go_smp (L' := [some (.inr (.inr (some 79))), some (.inl p1), some (.inl p2), some (.inl p3)]) (st' := [.inl (dt3 93 1), .inl (dt3 93 0), .inl 4, .inr (.inr (some 87))]) (w' := (SH, (u2 (u2 (u2 (u2 dt3 87 1 (dt3 80 (((5380 + (4 * p1)) + 1)).toNat)) 87 2 ((u2 dt3 87 1 (dt3 80 (((5380 + (4 * p1)) + 1)).toNat)) 80 (((5380 + (4 * p1)) + 2)).toNat)) 87 5 ((u2 (u2 dt3 87 1 (dt3 80 (((5380 + (4 * p1)) + 1)).toNat)) 87 2 ((u2 dt3 87 1 (dt3 80 (((5380 + (4 * p1)) + 1)).toNat)) 80 (((5380 + (4 * p1)) + 2)).toNat)) 80 (((5380 + (4 * p1)) + 3)).toNat)) 87 3 p3))) rfl rfl (s_iald (n := 3) (f := (u2 (u2 (u2 (u2 dt3 87 1 (dt3 80 (((5380 + (4 * p1)) + 1)).toNat)) 87 2 ((u2 dt3 87 1 (dt3 80 (((5380 + (4 * p1)) + 1)).toNat)) 80 (((5380 + (4 * p1)) + 2)).toNat)) 87 5 ((u2 (u2 dt3 87 1 (dt3 80 (((5380 + (4 * p1)) + 1)).toNat)) 87 2 ((u2 dt3 87 1 (dt3 80 (((5380 + (4 * p1)) + 1)).toNat)) 80 (((5380 + (4 * p1)) + 2)).toNat)) 80 (((5380 + (4 * p1)) + 3)).toNat)) 87 3 p3) 93) rfl ⟨by omega, by omega⟩) ?_
  refine go_to (k := 4) (pc' := 76) (L' := [some (.inr (.inr (some 79))), some (.inl p1), some (.inl p2), some (.inl p3)]) (st' := [.inl 2, .inr (.inr (some 93)), .inl ((dt3 93 0) + (dt3 93 1)), .inl 4, .inr (.inr (some 87))]) (w' := (SH, (u2 (u2 (u2 (u2 dt3 87 1 (dt3 80 (((5380 + (4 * p1)) + 1)).toNat)) 87 2 ((u2 dt3 87 1 (dt3 80 (((5380 + (4 * p1)) + 1)).toNat)) 80 (((5380 + (4 * p1)) + 2)).toNat)) 87 5 ((u2 (u2 dt3 87 1 (dt3 80 (((5380 + (4 * p1)) + 1)).toNat)) 87 2 ((u2 dt3 87 1 (dt3 80 (((5380 + (4 * p1)) + 1)).toNat)) 80 (((5380 + (4 * p1)) + 2)).toNat)) 80 (((5380 + (4 * p1)) + 3)).toNat)) 87 3 p3))) (fun _ => rfl) ?_
  have r54 : (-2147483648) ≤ dt3 93 2 ∧ dt3 93 2 ≤ 2147483647 := InvC_get hI4 93 2 rfl rfl
  refine go_smp (L' := [some (.inr (.inr (some 79))), some (.inl p1), some (.inl p2), some (.inl p3)]) (st' := [.inl (dt3 93 2), .inl ((dt3 93 0) + (dt3 93 1)), .inl 4, .inr (.inr (some 87))]) (w' := (SH, (u2 (u2 (u2 (u2 dt3 87 1 (dt3 80 (((5380 + (4 * p1)) + 1)).toNat)) 87 2 ((u2 dt3 87 1 (dt3 80 (((5380 + (4 * p1)) + 1)).toNat)) 80 (((5380 + (4 * p1)) + 2)).toNat)) 87 5 ((u2 (u2 dt3 87 1 (dt3 80 (((5380 + (4 * p1)) + 1)).toNat)) 87 2 ((u2 dt3 87 1 (dt3 80 (((5380 + (4 * p1)) + 1)).toNat)) 80 (((5380 + (4 * p1)) + 2)).toNat)) 80 (((5380 + (4 * p1)) + 3)).toNat)) 87 3 p3))) rfl rfl (s_iald (n := 3) (f := (u2 (u2 (u2 (u2 dt3 87 1 (dt3 80 (((5380 + (4 * p1)) + 1)).toNat)) 87 2 ((u2 dt3 87 1 (dt3 80 (((5380 + (4 * p1)) + 1)).toNat)) 80 (((5380 + (4 * p1)) + 2)).toNat)) 87 5 ((u2 (u2 dt3 87 1 (dt3 80 (((5380 + (4 * p1)) + 1)).toNat)) 87 2 ((u2 dt3 87 1 (dt3 80 (((5380 + (4 * p1)) + 1)).toNat)) 80 (((5380 + (4 * p1)) + 2)).toNat)) 80 (((5380 + (4 * p1)) + 3)).toNat)) 87 3 p3) 93) rfl ⟨by omega, by omega⟩) ?_
  refine go_to (k := 1) (pc' := 78) (L' := [some (.inr (.inr (some 79))), some (.inl p1), some (.inl p2), some (.inl p3)]) (st' := [.inl (((dt3 93 0) + (dt3 93 1)) + (dt3 93 2)), .inl 4, .inr (.inr (some 87))]) (w' := (SH, (u2 (u2 (u2 (u2 dt3 87 1 (dt3 80 (((5380 + (4 * p1)) + 1)).toNat)) 87 2 ((u2 dt3 87 1 (dt3 80 (((5380 + (4 * p1)) + 1)).toNat)) 80 (((5380 + (4 * p1)) + 2)).toNat)) 87 5 ((u2 (u2 dt3 87 1 (dt3 80 (((5380 + (4 * p1)) + 1)).toNat)) 87 2 ((u2 dt3 87 1 (dt3 80 (((5380 + (4 * p1)) + 1)).toNat)) 80 (((5380 + (4 * p1)) + 2)).toNat)) 80 (((5380 + (4 * p1)) + 3)).toNat)) 87 3 p3))) (fun _ => rfl) ?_
  have r55 := wr_RR (((dt3 93 0) + (dt3 93 1)) + (dt3 93 2))
  have hI56 : InvC (u2 (u2 (u2 (u2 (u2 dt3 87 1 (dt3 80 (((5380 + (4 * p1)) + 1)).toNat)) 87 2 ((u2 dt3 87 1 (dt3 80 (((5380 + (4 * p1)) + 1)).toNat)) 80 (((5380 + (4 * p1)) + 2)).toNat)) 87 5 ((u2 (u2 dt3 87 1 (dt3 80 (((5380 + (4 * p1)) + 1)).toNat)) 87 2 ((u2 dt3 87 1 (dt3 80 (((5380 + (4 * p1)) + 1)).toNat)) 80 (((5380 + (4 * p1)) + 2)).toNat)) 80 (((5380 + (4 * p1)) + 3)).toNat)) 87 3 p3) 87 4 (wr (((dt3 93 0) + (dt3 93 1)) + (dt3 93 2)))) := InvC_u2 hI44 (lo := -2147483648) (hi := 2147483647) rfl rfl rfl (by omega) (by omega)
  have hF57 : Fr [87, 88, 89, 90, 91, 92, 93, 94, 95, 96, 97, 98, 99, 100] dt (u2 (u2 (u2 (u2 (u2 dt3 87 1 (dt3 80 (((5380 + (4 * p1)) + 1)).toNat)) 87 2 ((u2 dt3 87 1 (dt3 80 (((5380 + (4 * p1)) + 1)).toNat)) 80 (((5380 + (4 * p1)) + 2)).toNat)) 87 5 ((u2 (u2 dt3 87 1 (dt3 80 (((5380 + (4 * p1)) + 1)).toNat)) 87 2 ((u2 dt3 87 1 (dt3 80 (((5380 + (4 * p1)) + 1)).toNat)) 80 (((5380 + (4 * p1)) + 2)).toNat)) 80 (((5380 + (4 * p1)) + 3)).toNat)) 87 3 p3) 87 4 (wr (((dt3 93 0) + (dt3 93 1)) + (dt3 93 2)))) := Fr_u2 hF45 (by decide)
  have w58 : (u2 (u2 (u2 (u2 (u2 dt3 87 1 (dt3 80 (((5380 + (4 * p1)) + 1)).toNat)) 87 2 ((u2 dt3 87 1 (dt3 80 (((5380 + (4 * p1)) + 1)).toNat)) 80 (((5380 + (4 * p1)) + 2)).toNat)) 87 5 ((u2 (u2 dt3 87 1 (dt3 80 (((5380 + (4 * p1)) + 1)).toNat)) 87 2 ((u2 dt3 87 1 (dt3 80 (((5380 + (4 * p1)) + 1)).toNat)) 80 (((5380 + (4 * p1)) + 2)).toNat)) 80 (((5380 + (4 * p1)) + 3)).toNat)) 87 3 p3) 87 4 (wr (((dt3 93 0) + (dt3 93 1)) + (dt3 93 2)))) 87 1 = (u2 (u2 (u2 (u2 dt3 87 1 (dt3 80 (((5380 + (4 * p1)) + 1)).toNat)) 87 2 ((u2 dt3 87 1 (dt3 80 (((5380 + (4 * p1)) + 1)).toNat)) 80 (((5380 + (4 * p1)) + 2)).toNat)) 87 5 ((u2 (u2 dt3 87 1 (dt3 80 (((5380 + (4 * p1)) + 1)).toNat)) 87 2 ((u2 dt3 87 1 (dt3 80 (((5380 + (4 * p1)) + 1)).toNat)) 80 (((5380 + (4 * p1)) + 2)).toNat)) 80 (((5380 + (4 * p1)) + 3)).toNat)) 87 3 p3) 87 1 := rfl
  have w59 : (u2 (u2 (u2 (u2 (u2 dt3 87 1 (dt3 80 (((5380 + (4 * p1)) + 1)).toNat)) 87 2 ((u2 dt3 87 1 (dt3 80 (((5380 + (4 * p1)) + 1)).toNat)) 80 (((5380 + (4 * p1)) + 2)).toNat)) 87 5 ((u2 (u2 dt3 87 1 (dt3 80 (((5380 + (4 * p1)) + 1)).toNat)) 87 2 ((u2 dt3 87 1 (dt3 80 (((5380 + (4 * p1)) + 1)).toNat)) 80 (((5380 + (4 * p1)) + 2)).toNat)) 80 (((5380 + (4 * p1)) + 3)).toNat)) 87 3 p3) 87 4 (wr (((dt3 93 0) + (dt3 93 1)) + (dt3 93 2)))) 87 2 = (u2 (u2 (u2 (u2 dt3 87 1 (dt3 80 (((5380 + (4 * p1)) + 1)).toNat)) 87 2 ((u2 dt3 87 1 (dt3 80 (((5380 + (4 * p1)) + 1)).toNat)) 80 (((5380 + (4 * p1)) + 2)).toNat)) 87 5 ((u2 (u2 dt3 87 1 (dt3 80 (((5380 + (4 * p1)) + 1)).toNat)) 87 2 ((u2 dt3 87 1 (dt3 80 (((5380 + (4 * p1)) + 1)).toNat)) 80 (((5380 + (4 * p1)) + 2)).toNat)) 80 (((5380 + (4 * p1)) + 3)).toNat)) 87 3 p3) 87 2 := rfl
  have w60 : (u2 (u2 (u2 (u2 (u2 dt3 87 1 (dt3 80 (((5380 + (4 * p1)) + 1)).toNat)) 87 2 ((u2 dt3 87 1 (dt3 80 (((5380 + (4 * p1)) + 1)).toNat)) 80 (((5380 + (4 * p1)) + 2)).toNat)) 87 5 ((u2 (u2 dt3 87 1 (dt3 80 (((5380 + (4 * p1)) + 1)).toNat)) 87 2 ((u2 dt3 87 1 (dt3 80 (((5380 + (4 * p1)) + 1)).toNat)) 80 (((5380 + (4 * p1)) + 2)).toNat)) 80 (((5380 + (4 * p1)) + 3)).toNat)) 87 3 p3) 87 4 (wr (((dt3 93 0) + (dt3 93 1)) + (dt3 93 2)))) 87 3 = (u2 (u2 (u2 (u2 dt3 87 1 (dt3 80 (((5380 + (4 * p1)) + 1)).toNat)) 87 2 ((u2 dt3 87 1 (dt3 80 (((5380 + (4 * p1)) + 1)).toNat)) 80 (((5380 + (4 * p1)) + 2)).toNat)) 87 5 ((u2 (u2 dt3 87 1 (dt3 80 (((5380 + (4 * p1)) + 1)).toNat)) 87 2 ((u2 dt3 87 1 (dt3 80 (((5380 + (4 * p1)) + 1)).toNat)) 80 (((5380 + (4 * p1)) + 2)).toNat)) 80 (((5380 + (4 * p1)) + 3)).toNat)) 87 3 p3) 87 3 := rfl
  have w61 : (u2 (u2 (u2 (u2 (u2 dt3 87 1 (dt3 80 (((5380 + (4 * p1)) + 1)).toNat)) 87 2 ((u2 dt3 87 1 (dt3 80 (((5380 + (4 * p1)) + 1)).toNat)) 80 (((5380 + (4 * p1)) + 2)).toNat)) 87 5 ((u2 (u2 dt3 87 1 (dt3 80 (((5380 + (4 * p1)) + 1)).toNat)) 87 2 ((u2 dt3 87 1 (dt3 80 (((5380 + (4 * p1)) + 1)).toNat)) 80 (((5380 + (4 * p1)) + 2)).toNat)) 80 (((5380 + (4 * p1)) + 3)).toNat)) 87 3 p3) 87 4 (wr (((dt3 93 0) + (dt3 93 1)) + (dt3 93 2)))) 87 4 = wr (((dt3 93 0) + (dt3 93 1)) + (dt3 93 2)) := rfl
  have w62 : (u2 (u2 (u2 (u2 (u2 dt3 87 1 (dt3 80 (((5380 + (4 * p1)) + 1)).toNat)) 87 2 ((u2 dt3 87 1 (dt3 80 (((5380 + (4 * p1)) + 1)).toNat)) 80 (((5380 + (4 * p1)) + 2)).toNat)) 87 5 ((u2 (u2 dt3 87 1 (dt3 80 (((5380 + (4 * p1)) + 1)).toNat)) 87 2 ((u2 dt3 87 1 (dt3 80 (((5380 + (4 * p1)) + 1)).toNat)) 80 (((5380 + (4 * p1)) + 2)).toNat)) 80 (((5380 + (4 * p1)) + 3)).toNat)) 87 3 p3) 87 4 (wr (((dt3 93 0) + (dt3 93 1)) + (dt3 93 2)))) 87 5 = (u2 (u2 (u2 (u2 dt3 87 1 (dt3 80 (((5380 + (4 * p1)) + 1)).toNat)) 87 2 ((u2 dt3 87 1 (dt3 80 (((5380 + (4 * p1)) + 1)).toNat)) 80 (((5380 + (4 * p1)) + 2)).toNat)) 87 5 ((u2 (u2 dt3 87 1 (dt3 80 (((5380 + (4 * p1)) + 1)).toNat)) 87 2 ((u2 dt3 87 1 (dt3 80 (((5380 + (4 * p1)) + 1)).toNat)) 80 (((5380 + (4 * p1)) + 2)).toNat)) 80 (((5380 + (4 * p1)) + 3)).toNat)) 87 3 p3) 87 5 := rfl
  have w63 : (u2 (u2 (u2 (u2 (u2 dt3 87 1 (dt3 80 (((5380 + (4 * p1)) + 1)).toNat)) 87 2 ((u2 dt3 87 1 (dt3 80 (((5380 + (4 * p1)) + 1)).toNat)) 80 (((5380 + (4 * p1)) + 2)).toNat)) 87 5 ((u2 (u2 dt3 87 1 (dt3 80 (((5380 + (4 * p1)) + 1)).toNat)) 87 2 ((u2 dt3 87 1 (dt3 80 (((5380 + (4 * p1)) + 1)).toNat)) 80 (((5380 + (4 * p1)) + 2)).toNat)) 80 (((5380 + (4 * p1)) + 3)).toNat)) 87 3 p3) 87 4 (wr (((dt3 93 0) + (dt3 93 1)) + (dt3 93 2)))) 87 6 = (u2 (u2 (u2 (u2 dt3 87 1 (dt3 80 (((5380 + (4 * p1)) + 1)).toNat)) 87 2 ((u2 dt3 87 1 (dt3 80 (((5380 + (4 * p1)) + 1)).toNat)) 80 (((5380 + (4 * p1)) + 2)).toNat)) 87 5 ((u2 (u2 dt3 87 1 (dt3 80 (((5380 + (4 * p1)) + 1)).toNat)) 87 2 ((u2 dt3 87 1 (dt3 80 (((5380 + (4 * p1)) + 1)).toNat)) 80 (((5380 + (4 * p1)) + 2)).toNat)) 80 (((5380 + (4 * p1)) + 3)).toNat)) 87 3 p3) 87 6 := rfl
  refine go_smp (L' := [some (.inr (.inr (some 79))), some (.inl p1), some (.inl p2), some (.inl p3)]) (st' := []) (w' := (SH, (u2 (u2 (u2 (u2 (u2 dt3 87 1 (dt3 80 (((5380 + (4 * p1)) + 1)).toNat)) 87 2 ((u2 dt3 87 1 (dt3 80 (((5380 + (4 * p1)) + 1)).toNat)) 80 (((5380 + (4 * p1)) + 2)).toNat)) 87 5 ((u2 (u2 dt3 87 1 (dt3 80 (((5380 + (4 * p1)) + 1)).toNat)) 87 2 ((u2 dt3 87 1 (dt3 80 (((5380 + (4 * p1)) + 1)).toNat)) 80 (((5380 + (4 * p1)) + 2)).toNat)) 80 (((5380 + (4 * p1)) + 3)).toNat)) 87 3 p3) 87 4 (wr (((dt3 93 0) + (dt3 93 1)) + (dt3 93 2)))))) rfl rfl (s_iastw (n := 7) rfl ⟨by omega, by omega⟩) ?_
  refine go_to (k := 6) (pc' := 88) (L' := [some (.inr (.inr (some 79))), some (.inl p1), some (.inl p2), some (.inl p3)]) (st' := [.inl 1, .inl p2, .inr (.inr (some 79)), .inl 6, .inr (.inr (some 87))]) (w' := (SH, (u2 (u2 (u2 (u2 (u2 dt3 87 1 (dt3 80 (((5380 + (4 * p1)) + 1)).toNat)) 87 2 ((u2 dt3 87 1 (dt3 80 (((5380 + (4 * p1)) + 1)).toNat)) 80 (((5380 + (4 * p1)) + 2)).toNat)) 87 5 ((u2 (u2 dt3 87 1 (dt3 80 (((5380 + (4 * p1)) + 1)).toNat)) 87 2 ((u2 dt3 87 1 (dt3 80 (((5380 + (4 * p1)) + 1)).toNat)) 80 (((5380 + (4 * p1)) + 2)).toNat)) 80 (((5380 + (4 * p1)) + 3)).toNat)) 87 3 p3) 87 4 (wr (((dt3 93 0) + (dt3 93 1)) + (dt3 93 2)))))) (fun _ => rfl) ?_
  refine go_call (Q' := _) rfl rfl rfl rfl rfl (sp_X6_asked_1 L xs sio (d + 4) (u2 (u2 (u2 (u2 (u2 dt3 87 1 (dt3 80 (((5380 + (4 * p1)) + 1)).toNat)) 87 2 ((u2 dt3 87 1 (dt3 80 (((5380 + (4 * p1)) + 1)).toNat)) 80 (((5380 + (4 * p1)) + 2)).toNat)) 87 5 ((u2 (u2 dt3 87 1 (dt3 80 (((5380 + (4 * p1)) + 1)).toNat)) 87 2 ((u2 dt3 87 1 (dt3 80 (((5380 + (4 * p1)) + 1)).toNat)) 80 (((5380 + (4 * p1)) + 2)).toNat)) 80 (((5380 + (4 * p1)) + 3)).toNat)) 87 3 p3) 87 4 (wr (((dt3 93 0) + (dt3 93 1)) + (dt3 93 2)))) hI56 (MW_fr hM hF57 (by decide))  p2 ⟨by omega, by omega⟩ ) ?_
  rintro _ _ ⟨rfl, h64⟩
  refine ⟨rfl, ?_⟩
  rcases h64 with ⟨rfl, h64⟩
  have ef65 : (u2 (u2 (u2 (u2 (u2 dt3 87 1 (dt3 80 (((5380 + (4 * p1)) + 1)).toNat)) 87 2 ((u2 dt3 87 1 (dt3 80 (((5380 + (4 * p1)) + 1)).toNat)) 80 (((5380 + (4 * p1)) + 2)).toNat)) 87 5 ((u2 (u2 dt3 87 1 (dt3 80 (((5380 + (4 * p1)) + 1)).toNat)) 87 2 ((u2 dt3 87 1 (dt3 80 (((5380 + (4 * p1)) + 1)).toNat)) 80 (((5380 + (4 * p1)) + 2)).toNat)) 80 (((5380 + (4 * p1)) + 3)).toNat)) 87 3 p3) 87 4 (wr (((dt3 93 0) + (dt3 93 1)) + (dt3 93 2)))) 80 (((5320 + (5 * p2)) + 1)).toNat = dt 80 (((5320 + (5 * p2)) + 1)).toNat := hF57 80 (by decide) _
  have hI66 : InvC (u2 (u2 (u2 (u2 (u2 (u2 dt3 87 1 (dt3 80 (((5380 + (4 * p1)) + 1)).toNat)) 87 2 ((u2 dt3 87 1 (dt3 80 (((5380 + (4 * p1)) + 1)).toNat)) 80 (((5380 + (4 * p1)) + 2)).toNat)) 87 5 ((u2 (u2 dt3 87 1 (dt3 80 (((5380 + (4 * p1)) + 1)).toNat)) 87 2 ((u2 dt3 87 1 (dt3 80 (((5380 + (4 * p1)) + 1)).toNat)) 80 (((5380 + (4 * p1)) + 2)).toNat)) 80 (((5380 + (4 * p1)) + 3)).toNat)) 87 3 p3) 87 4 (wr (((dt3 93 0) + (dt3 93 1)) + (dt3 93 2)))) 87 6 ((u2 (u2 (u2 (u2 (u2 dt3 87 1 (dt3 80 (((5380 + (4 * p1)) + 1)).toNat)) 87 2 ((u2 dt3 87 1 (dt3 80 (((5380 + (4 * p1)) + 1)).toNat)) 80 (((5380 + (4 * p1)) + 2)).toNat)) 87 5 ((u2 (u2 dt3 87 1 (dt3 80 (((5380 + (4 * p1)) + 1)).toNat)) 87 2 ((u2 dt3 87 1 (dt3 80 (((5380 + (4 * p1)) + 1)).toNat)) 80 (((5380 + (4 * p1)) + 2)).toNat)) 80 (((5380 + (4 * p1)) + 3)).toNat)) 87 3 p3) 87 4 (wr (((dt3 93 0) + (dt3 93 1)) + (dt3 93 2)))) 80 (((5320 + (5 * p2)) + 1)).toNat)) := InvC_u2 hI56 (lo := -2147483648) (hi := 2147483647) rfl rfl rfl (by omega) (by omega)
  have hF67 : Fr [87, 88, 89, 90, 91, 92, 93, 94, 95, 96, 97, 98, 99, 100] dt (u2 (u2 (u2 (u2 (u2 (u2 dt3 87 1 (dt3 80 (((5380 + (4 * p1)) + 1)).toNat)) 87 2 ((u2 dt3 87 1 (dt3 80 (((5380 + (4 * p1)) + 1)).toNat)) 80 (((5380 + (4 * p1)) + 2)).toNat)) 87 5 ((u2 (u2 dt3 87 1 (dt3 80 (((5380 + (4 * p1)) + 1)).toNat)) 87 2 ((u2 dt3 87 1 (dt3 80 (((5380 + (4 * p1)) + 1)).toNat)) 80 (((5380 + (4 * p1)) + 2)).toNat)) 80 (((5380 + (4 * p1)) + 3)).toNat)) 87 3 p3) 87 4 (wr (((dt3 93 0) + (dt3 93 1)) + (dt3 93 2)))) 87 6 ((u2 (u2 (u2 (u2 (u2 dt3 87 1 (dt3 80 (((5380 + (4 * p1)) + 1)).toNat)) 87 2 ((u2 dt3 87 1 (dt3 80 (((5380 + (4 * p1)) + 1)).toNat)) 80 (((5380 + (4 * p1)) + 2)).toNat)) 87 5 ((u2 (u2 dt3 87 1 (dt3 80 (((5380 + (4 * p1)) + 1)).toNat)) 87 2 ((u2 dt3 87 1 (dt3 80 (((5380 + (4 * p1)) + 1)).toNat)) 80 (((5380 + (4 * p1)) + 2)).toNat)) 80 (((5380 + (4 * p1)) + 3)).toNat)) 87 3 p3) 87 4 (wr (((dt3 93 0) + (dt3 93 1)) + (dt3 93 2)))) 80 (((5320 + (5 * p2)) + 1)).toNat)) := Fr_u2 hF57 (by decide)
  have w68 : (u2 (u2 (u2 (u2 (u2 (u2 dt3 87 1 (dt3 80 (((5380 + (4 * p1)) + 1)).toNat)) 87 2 ((u2 dt3 87 1 (dt3 80 (((5380 + (4 * p1)) + 1)).toNat)) 80 (((5380 + (4 * p1)) + 2)).toNat)) 87 5 ((u2 (u2 dt3 87 1 (dt3 80 (((5380 + (4 * p1)) + 1)).toNat)) 87 2 ((u2 dt3 87 1 (dt3 80 (((5380 + (4 * p1)) + 1)).toNat)) 80 (((5380 + (4 * p1)) + 2)).toNat)) 80 (((5380 + (4 * p1)) + 3)).toNat)) 87 3 p3) 87 4 (wr (((dt3 93 0) + (dt3 93 1)) + (dt3 93 2)))) 87 6 ((u2 (u2 (u2 (u2 (u2 dt3 87 1 (dt3 80 (((5380 + (4 * p1)) + 1)).toNat)) 87 2 ((u2 dt3 87 1 (dt3 80 (((5380 + (4 * p1)) + 1)).toNat)) 80 (((5380 + (4 * p1)) + 2)).toNat)) 87 5 ((u2 (u2 dt3 87 1 (dt3 80 (((5380 + (4 * p1)) + 1)).toNat)) 87 2 ((u2 dt3 87 1 (dt3 80 (((5380 + (4 * p1)) + 1)).toNat)) 80 (((5380 + (4 * p1)) + 2)).toNat)) 80 (((5380 + (4 * p1)) + 3)).toNat)) 87 3 p3) 87 4 (wr (((dt3 93 0) + (dt3 93 1)) + (dt3 93 2)))) 80 (((5320 + (5 * p2)) + 1)).toNat)) 87 1 = (u2 (u2 (u2 (u2 (u2 dt3 87 1 (dt3 80 (((5380 + (4 * p1)) + 1)).toNat)) 87 2 ((u2 dt3 87 1 (dt3 80 (((5380 + (4 * p1)) + 1)).toNat)) 80 (((5380 + (4 * p1)) + 2)).toNat)) 87 5 ((u2 (u2 dt3 87 1 (dt3 80 (((5380 + (4 * p1)) + 1)).toNat)) 87 2 ((u2 dt3 87 1 (dt3 80 (((5380 + (4 * p1)) + 1)).toNat)) 80 (((5380 + (4 * p1)) + 2)).toNat)) 80 (((5380 + (4 * p1)) + 3)).toNat)) 87 3 p3) 87 4 (wr (((dt3 93 0) + (dt3 93 1)) + (dt3 93 2)))) 87 1 := rfl
  have w69 : (u2 (u2 (u2 (u2 (u2 (u2 dt3 87 1 (dt3 80 (((5380 + (4 * p1)) + 1)).toNat)) 87 2 ((u2 dt3 87 1 (dt3 80 (((5380 + (4 * p1)) + 1)).toNat)) 80 (((5380 + (4 * p1)) + 2)).toNat)) 87 5 ((u2 (u2 dt3 87 1 (dt3 80 (((5380 + (4 * p1)) + 1)).toNat)) 87 2 ((u2 dt3 87 1 (dt3 80 (((5380 + (4 * p1)) + 1)).toNat)) 80 (((5380 + (4 * p1)) + 2)).toNat)) 80 (((5380 + (4 * p1)) + 3)).toNat)) 87 3 p3) 87 4 (wr (((dt3 93 0) + (dt3 93 1)) + (dt3 93 2)))) 87 6 ((u2 (u2 (u2 (u2 (u2 dt3 87 1 (dt3 80 (((5380 + (4 * p1)) + 1)).toNat)) 87 2 ((u2 dt3 87 1 (dt3 80 (((5380 + (4 * p1)) + 1)).toNat)) 80 (((5380 + (4 * p1)) + 2)).toNat)) 87 5 ((u2 (u2 dt3 87 1 (dt3 80 (((5380 + (4 * p1)) + 1)).toNat)) 87 2 ((u2 dt3 87 1 (dt3 80 (((5380 + (4 * p1)) + 1)).toNat)) 80 (((5380 + (4 * p1)) + 2)).toNat)) 80 (((5380 + (4 * p1)) + 3)).toNat)) 87 3 p3) 87 4 (wr (((dt3 93 0) + (dt3 93 1)) + (dt3 93 2)))) 80 (((5320 + (5 * p2)) + 1)).toNat)) 87 2 = (u2 (u2 (u2 (u2 (u2 dt3 87 1 (dt3 80 (((5380 + (4 * p1)) + 1)).toNat)) 87 2 ((u2 dt3 87 1 (dt3 80 (((5380 + (4 * p1)) + 1)).toNat)) 80 (((5380 + (4 * p1)) + 2)).toNat)) 87 5 ((u2 (u2 dt3 87 1 (dt3 80 (((5380 + (4 * p1)) + 1)).toNat)) 87 2 ((u2 dt3 87 1 (dt3 80 (((5380 + (4 * p1)) + 1)).toNat)) 80 (((5380 + (4 * p1)) + 2)).toNat)) 80 (((5380 + (4 * p1)) + 3)).toNat)) 87 3 p3) 87 4 (wr (((dt3 93 0) + (dt3 93 1)) + (dt3 93 2)))) 87 2 := rfl
  have w70 : (u2 (u2 (u2 (u2 (u2 (u2 dt3 87 1 (dt3 80 (((5380 + (4 * p1)) + 1)).toNat)) 87 2 ((u2 dt3 87 1 (dt3 80 (((5380 + (4 * p1)) + 1)).toNat)) 80 (((5380 + (4 * p1)) + 2)).toNat)) 87 5 ((u2 (u2 dt3 87 1 (dt3 80 (((5380 + (4 * p1)) + 1)).toNat)) 87 2 ((u2 dt3 87 1 (dt3 80 (((5380 + (4 * p1)) + 1)).toNat)) 80 (((5380 + (4 * p1)) + 2)).toNat)) 80 (((5380 + (4 * p1)) + 3)).toNat)) 87 3 p3) 87 4 (wr (((dt3 93 0) + (dt3 93 1)) + (dt3 93 2)))) 87 6 ((u2 (u2 (u2 (u2 (u2 dt3 87 1 (dt3 80 (((5380 + (4 * p1)) + 1)).toNat)) 87 2 ((u2 dt3 87 1 (dt3 80 (((5380 + (4 * p1)) + 1)).toNat)) 80 (((5380 + (4 * p1)) + 2)).toNat)) 87 5 ((u2 (u2 dt3 87 1 (dt3 80 (((5380 + (4 * p1)) + 1)).toNat)) 87 2 ((u2 dt3 87 1 (dt3 80 (((5380 + (4 * p1)) + 1)).toNat)) 80 (((5380 + (4 * p1)) + 2)).toNat)) 80 (((5380 + (4 * p1)) + 3)).toNat)) 87 3 p3) 87 4 (wr (((dt3 93 0) + (dt3 93 1)) + (dt3 93 2)))) 80 (((5320 + (5 * p2)) + 1)).toNat)) 87 3 = (u2 (u2 (u2 (u2 (u2 dt3 87 1 (dt3 80 (((5380 + (4 * p1)) + 1)).toNat)) 87 2 ((u2 dt3 87 1 (dt3 80 (((5380 + (4 * p1)) + 1)).toNat)) 80 (((5380 + (4 * p1)) + 2)).toNat)) 87 5 ((u2 (u2 dt3 87 1 (dt3 80 (((5380 + (4 * p1)) + 1)).toNat)) 87 2 ((u2 dt3 87 1 (dt3 80 (((5380 + (4 * p1)) + 1)).toNat)) 80 (((5380 + (4 * p1)) + 2)).toNat)) 80 (((5380 + (4 * p1)) + 3)).toNat)) 87 3 p3) 87 4 (wr (((dt3 93 0) + (dt3 93 1)) + (dt3 93 2)))) 87 3 := rfl
  have w71 : (u2 (u2 (u2 (u2 (u2 (u2 dt3 87 1 (dt3 80 (((5380 + (4 * p1)) + 1)).toNat)) 87 2 ((u2 dt3 87 1 (dt3 80 (((5380 + (4 * p1)) + 1)).toNat)) 80 (((5380 + (4 * p1)) + 2)).toNat)) 87 5 ((u2 (u2 dt3 87 1 (dt3 80 (((5380 + (4 * p1)) + 1)).toNat)) 87 2 ((u2 dt3 87 1 (dt3 80 (((5380 + (4 * p1)) + 1)).toNat)) 80 (((5380 + (4 * p1)) + 2)).toNat)) 80 (((5380 + (4 * p1)) + 3)).toNat)) 87 3 p3) 87 4 (wr (((dt3 93 0) + (dt3 93 1)) + (dt3 93 2)))) 87 6 ((u2 (u2 (u2 (u2 (u2 dt3 87 1 (dt3 80 (((5380 + (4 * p1)) + 1)).toNat)) 87 2 ((u2 dt3 87 1 (dt3 80 (((5380 + (4 * p1)) + 1)).toNat)) 80 (((5380 + (4 * p1)) + 2)).toNat)) 87 5 ((u2 (u2 dt3 87 1 (dt3 80 (((5380 + (4 * p1)) + 1)).toNat)) 87 2 ((u2 dt3 87 1 (dt3 80 (((5380 + (4 * p1)) + 1)).toNat)) 80 (((5380 + (4 * p1)) + 2)).toNat)) 80 (((5380 + (4 * p1)) + 3)).toNat)) 87 3 p3) 87 4 (wr (((dt3 93 0) + (dt3 93 1)) + (dt3 93 2)))) 80 (((5320 + (5 * p2)) + 1)).toNat)) 87 4 = (u2 (u2 (u2 (u2 (u2 dt3 87 1 (dt3 80 (((5380 + (4 * p1)) + 1)).toNat)) 87 2 ((u2 dt3 87 1 (dt3 80 (((5380 + (4 * p1)) + 1)).toNat)) 80 (((5380 + (4 * p1)) + 2)).toNat)) 87 5 ((u2 (u2 dt3 87 1 (dt3 80 (((5380 + (4 * p1)) + 1)).toNat)) 87 2 ((u2 dt3 87 1 (dt3 80 (((5380 + (4 * p1)) + 1)).toNat)) 80 (((5380 + (4 * p1)) + 2)).toNat)) 80 (((5380 + (4 * p1)) + 3)).toNat)) 87 3 p3) 87 4 (wr (((dt3 93 0) + (dt3 93 1)) + (dt3 93 2)))) 87 4 := rfl
  have w72 : (u2 (u2 (u2 (u2 (u2 (u2 dt3 87 1 (dt3 80 (((5380 + (4 * p1)) + 1)).toNat)) 87 2 ((u2 dt3 87 1 (dt3 80 (((5380 + (4 * p1)) + 1)).toNat)) 80 (((5380 + (4 * p1)) + 2)).toNat)) 87 5 ((u2 (u2 dt3 87 1 (dt3 80 (((5380 + (4 * p1)) + 1)).toNat)) 87 2 ((u2 dt3 87 1 (dt3 80 (((5380 + (4 * p1)) + 1)).toNat)) 80 (((5380 + (4 * p1)) + 2)).toNat)) 80 (((5380 + (4 * p1)) + 3)).toNat)) 87 3 p3) 87 4 (wr (((dt3 93 0) + (dt3 93 1)) + (dt3 93 2)))) 87 6 ((u2 (u2 (u2 (u2 (u2 dt3 87 1 (dt3 80 (((5380 + (4 * p1)) + 1)).toNat)) 87 2 ((u2 dt3 87 1 (dt3 80 (((5380 + (4 * p1)) + 1)).toNat)) 80 (((5380 + (4 * p1)) + 2)).toNat)) 87 5 ((u2 (u2 dt3 87 1 (dt3 80 (((5380 + (4 * p1)) + 1)).toNat)) 87 2 ((u2 dt3 87 1 (dt3 80 (((5380 + (4 * p1)) + 1)).toNat)) 80 (((5380 + (4 * p1)) + 2)).toNat)) 80 (((5380 + (4 * p1)) + 3)).toNat)) 87 3 p3) 87 4 (wr (((dt3 93 0) + (dt3 93 1)) + (dt3 93 2)))) 80 (((5320 + (5 * p2)) + 1)).toNat)) 87 5 = (u2 (u2 (u2 (u2 (u2 dt3 87 1 (dt3 80 (((5380 + (4 * p1)) + 1)).toNat)) 87 2 ((u2 dt3 87 1 (dt3 80 (((5380 + (4 * p1)) + 1)).toNat)) 80 (((5380 + (4 * p1)) + 2)).toNat)) 87 5 ((u2 (u2 dt3 87 1 (dt3 80 (((5380 + (4 * p1)) + 1)).toNat)) 87 2 ((u2 dt3 87 1 (dt3 80 (((5380 + (4 * p1)) + 1)).toNat)) 80 (((5380 + (4 * p1)) + 2)).toNat)) 80 (((5380 + (4 * p1)) + 3)).toNat)) 87 3 p3) 87 4 (wr (((dt3 93 0) + (dt3 93 1)) + (dt3 93 2)))) 87 5 := rfl
  have w73 : (u2 (u2 (u2 (u2 (u2 (u2 dt3 87 1 (dt3 80 (((5380 + (4 * p1)) + 1)).toNat)) 87 2 ((u2 dt3 87 1 (dt3 80 (((5380 + (4 * p1)) + 1)).toNat)) 80 (((5380 + (4 * p1)) + 2)).toNat)) 87 5 ((u2 (u2 dt3 87 1 (dt3 80 (((5380 + (4 * p1)) + 1)).toNat)) 87 2 ((u2 dt3 87 1 (dt3 80 (((5380 + (4 * p1)) + 1)).toNat)) 80 (((5380 + (4 * p1)) + 2)).toNat)) 80 (((5380 + (4 * p1)) + 3)).toNat)) 87 3 p3) 87 4 (wr (((dt3 93 0) + (dt3 93 1)) + (dt3 93 2)))) 87 6 ((u2 (u2 (u2 (u2 (u2 dt3 87 1 (dt3 80 (((5380 + (4 * p1)) + 1)).toNat)) 87 2 ((u2 dt3 87 1 (dt3 80 (((5380 + (4 * p1)) + 1)).toNat)) 80 (((5380 + (4 * p1)) + 2)).toNat)) 87 5 ((u2 (u2 dt3 87 1 (dt3 80 (((5380 + (4 * p1)) + 1)).toNat)) 87 2 ((u2 dt3 87 1 (dt3 80 (((5380 + (4 * p1)) + 1)).toNat)) 80 (((5380 + (4 * p1)) + 2)).toNat)) 80 (((5380 + (4 * p1)) + 3)).toNat)) 87 3 p3) 87 4 (wr (((dt3 93 0) + (dt3 93 1)) + (dt3 93 2)))) 80 (((5320 + (5 * p2)) + 1)).toNat)) 87 6 = (u2 (u2 (u2 (u2 (u2 dt3 87 1 (dt3 80 (((5380 + (4 * p1)) + 1)).toNat)) 87 2 ((u2 dt3 87 1 (dt3 80 (((5380 + (4 * p1)) + 1)).toNat)) 80 (((5380 + (4 * p1)) + 2)).toNat)) 87 5 ((u2 (u2 dt3 87 1 (dt3 80 (((5380 + (4 * p1)) + 1)).toNat)) 87 2 ((u2 dt3 87 1 (dt3 80 (((5380 + (4 * p1)) + 1)).toNat)) 80 (((5380 + (4 * p1)) + 2)).toNat)) 80 (((5380 + (4 * p1)) + 3)).toNat)) 87 3 p3) 87 4 (wr (((dt3 93 0) + (dt3 93 1)) + (dt3 93 2)))) 80 (((5320 + (5 * p2)) + 1)).toNat := rfl
  refine go_smp (L' := [some (.inr (.inr (some 79))), some (.inl p1), some (.inl p2), some (.inl p3)]) (st' := []) (w' := (SH, (u2 (u2 (u2 (u2 (u2 (u2 dt3 87 1 (dt3 80 (((5380 + (4 * p1)) + 1)).toNat)) 87 2 ((u2 dt3 87 1 (dt3 80 (((5380 + (4 * p1)) + 1)).toNat)) 80 (((5380 + (4 * p1)) + 2)).toNat)) 87 5 ((u2 (u2 dt3 87 1 (dt3 80 (((5380 + (4 * p1)) + 1)).toNat)) 87 2 ((u2 dt3 87 1 (dt3 80 (((5380 + (4 * p1)) + 1)).toNat)) 80 (((5380 + (4 * p1)) + 2)).toNat)) 80 (((5380 + (4 * p1)) + 3)).toNat)) 87 3 p3) 87 4 (wr (((dt3 93 0) + (dt3 93 1)) + (dt3 93 2)))) 87 6 ((u2 (u2 (u2 (u2 (u2 dt3 87 1 (dt3 80 (((5380 + (4 * p1)) + 1)).toNat)) 87 2 ((u2 dt3 87 1 (dt3 80 (((5380 + (4 * p1)) + 1)).toNat)) 80 (((5380 + (4 * p1)) + 2)).toNat)) 87 5 ((u2 (u2 dt3 87 1 (dt3 80 (((5380 + (4 * p1)) + 1)).toNat)) 87 2 ((u2 dt3 87 1 (dt3 80 (((5380 + (4 * p1)) + 1)).toNat)) 80 (((5380 + (4 * p1)) + 2)).toNat)) 80 (((5380 + (4 * p1)) + 3)).toNat)) 87 3 p3) 87 4 (wr (((dt3 93 0) + (dt3 93 1)) + (dt3 93 2)))) 80 (((5320 + (5 * p2)) + 1)).toNat)))) rfl rfl (s_iast (n := 7) rfl ⟨by omega, by omega⟩ ⟨by omega, by omega⟩) ?_
  refine go_ret (k := 1) (r := none) (w1 := (SH, (u2 (u2 (u2 (u2 (u2 (u2 dt3 87 1 (dt3 80 (((5380 + (4 * p1)) + 1)).toNat)) 87 2 ((u2 dt3 87 1 (dt3 80 (((5380 + (4 * p1)) + 1)).toNat)) 80 (((5380 + (4 * p1)) + 2)).toNat)) 87 5 ((u2 (u2 dt3 87 1 (dt3 80 (((5380 + (4 * p1)) + 1)).toNat)) 87 2 ((u2 dt3 87 1 (dt3 80 (((5380 + (4 * p1)) + 1)).toNat)) 80 (((5380 + (4 * p1)) + 2)).toNat)) 80 (((5380 + (4 * p1)) + 3)).toNat)) 87 3 p3) 87 4 (wr (((dt3 93 0) + (dt3 93 1)) + (dt3 93 2)))) 87 6 ((u2 (u2 (u2 (u2 (u2 dt3 87 1 (dt3 80 (((5380 + (4 * p1)) + 1)).toNat)) 87 2 ((u2 dt3 87 1 (dt3 80 (((5380 + (4 * p1)) + 1)).toNat)) 80 (((5380 + (4 * p1)) + 2)).toNat)) 87 5 ((u2 (u2 dt3 87 1 (dt3 80 (((5380 + (4 * p1)) + 1)).toNat)) 87 2 ((u2 dt3 87 1 (dt3 80 (((5380 + (4 * p1)) + 1)).toNat)) 80 (((5380 + (4 * p1)) + 2)).toNat)) 80 (((5380 + (4 * p1)) + 3)).toNat)) 87 3 p3) 87 4 (wr (((dt3 93 0) + (dt3 93 1)) + (dt3 93 2)))) 80 (((5320 + (5 * p2)) + 1)).toNat)))) (fun _ => rfl) ?_
  exact ⟨(u2 (u2 (u2 (u2 (u2 (u2 dt3 87 1 (dt3 80 (((5380 + (4 * p1)) + 1)).toNat)) 87 2 ((u2 dt3 87 1 (dt3 80 (((5380 + (4 * p1)) + 1)).toNat)) 80 (((5380 + (4 * p1)) + 2)).toNat)) 87 5 ((u2 (u2 dt3 87 1 (dt3 80 (((5380 + (4 * p1)) + 1)).toNat)) 87 2 ((u2 dt3 87 1 (dt3 80 (((5380 + (4 * p1)) + 1)).toNat)) 80 (((5380 + (4 * p1)) + 2)).toNat)) 80 (((5380 + (4 * p1)) + 3)).toNat)) 87 3 p3) 87 4 (wr (((dt3 93 0) + (dt3 93 1)) + (dt3 93 2)))) 87 6 ((u2 (u2 (u2 (u2 (u2 dt3 87 1 (dt3 80 (((5380 + (4 * p1)) + 1)).toNat)) 87 2 ((u2 dt3 87 1 (dt3 80 (((5380 + (4 * p1)) + 1)).toNat)) 80 (((5380 + (4 * p1)) + 2)).toNat)) 87 5 ((u2 (u2 dt3 87 1 (dt3 80 (((5380 + (4 * p1)) + 1)).toNat)) 87 2 ((u2 dt3 87 1 (dt3 80 (((5380 + (4 * p1)) + 1)).toNat)) 80 (((5380 + (4 * p1)) + 2)).toNat)) 80 (((5380 + (4 * p1)) + 3)).toNat)) 87 3 p3) 87 4 (wr (((dt3 93 0) + (dt3 93 1)) + (dt3 93 2)))) 80 (((5320 + (5 * p2)) + 1)).toNat)), rfl, hI66, hF67, ⟨rfl, by exact FQ_R (by rw [show 5380 + 4 * p1.toNat + 1 = (((5380 + (4 * p1)) + 1)).toNat by omega]; omega) (by rw [show 5380 + 4 * p1.toNat + 2 = (((5380 + (4 * p1)) + 2)).toNat by omega]; omega) (by omega) (by rw [SAID_10]; omega) (by rw [show 5380 + 4 * p1.toNat + 3 = (((5380 + (4 * p1)) + 3)).toNat by omega]; omega) (by rw [show 5320 + 5 * p2.toNat + 1 = (((5320 + (5 * p2)) + 1)).toNat by omega]; omega)⟩⟩
set_option maxRecDepth 20000 in
theorem chk_sp_X6_weight_f (L : Nat) (xs : Nat → Int32) (sio : Option Nat) (d : Nat) (dt : Nat → Nat → Int) (hI : InvC dt) (hM : MW (dt 80))  (p1 : Int) (h_p1 : (-2147483648) ≤ p1 ∧ p1 ≤ 2147483647) (p2 : Int) (h_p2 : (-2147483648) ≤ p2 ∧ p2 ≤ 2147483647) (p3 : Int) (h_p3 : (-2147483648) ≤ p3 ∧ p3 ≤ 2147483647) (p4 : Int) (h_p4 : (-2147483648) ≤ p4 ∧ p4 ≤ 2147483647)  : GO (am_XX L xs sio) (d + 6) 207 0 [some (.inr (.inr (some 79))), some (.inl p1), some (.inl p2), some (.inl p3), some (.inl p4)] [] (SH, dt) (fun r w2 => ∃ dt2 : Nat → Nat → Int, w2 = (SH, dt2) ∧ InvC dt2 ∧ Fr [86, 87, 88, 89, 90, 91, 92, 93, 94, 95, 96, 97, 98, 99, 100] dt dt2 ∧ ((r = some (.inl (-1)) ∧ (¬ ((0 ≤ p1 ∧ p1 < dt 80 2) ∧ (0 ≤ p2 ∧ p2 < dt 80 1) ∧ (0 ≤ p3 ∧ p3 ≤ 3) ∧ (0 ≤ p4 ∧ p4 ≤ 8)))) ∨ (∃ v : Int, r = some (.inl v) ∧ (0 ≤ v ∧ v ≤ 100) ∧ ((0 ≤ p1 ∧ p1 < dt 80 2) ∧ (0 ≤ p2 ∧ p2 < dt 80 1) ∧ (0 ≤ p3 ∧ p3 ≤ 3) ∧ (0 ≤ p4 ∧ p4 ≤ 8)) ∧ (v = WH (dt 80) (FQ (dt 80) p1 p2 p3) (dt 80 (5380 + 4 * p1.toNat)) p4)))) := by
  have hF : Fr [86, 87, 88, 89, 90, 91, 92, 93, 94, 95, 96, 97, 98, 99, 100] dt dt := Fr_refl
  have r1 : (-2147483648) ≤ dt 80 1 ∧ dt 80 1 ≤ 2147483647 := InvC_get hI 80 1 rfl rfl
  have r2 := MW_n hM
  have r3 : (-2147483648) ≤ dt 80 2 ∧ dt 80 2 ≤ 2147483647 := InvC_get hI 80 2 rfl rfl
  refine go_to (k := 2) (pc' := 2) (L' := [some (.inr (.inr (some 79))), some (.inl p1), some (.inl p2), some (.inl p3), some (.inl p4)]) (st' := [.inl p1, .inr (.inr (some 79))]) (w' := (SH, dt)) (fun _ => rfl) ?_
  refine go_call (Q' := _) rfl rfl rfl rfl rfl (sp_X6_isChild L xs sio (d + 4) dt hI hM  p1 ⟨by omega, by omega⟩ ) ?_
  rintro _ _ ⟨rfl, h4⟩
  refine ⟨rfl, ?_⟩
  rcases h4 with ⟨rfl, h4⟩ | ⟨rfl, h4⟩
  · skip
    refine go_to (k := 3) (pc' := 10) (L' := [some (.inr (.inr (some 79))), some (.inl p1), some (.inl p2), some (.inl p3), some (.inl p4)]) (st' := [.inl p2, .inr (.inr (some 79))]) (w' := (SH, dt)) (fun _ => rfl) ?_
    refine go_call (Q' := _) rfl rfl rfl rfl rfl (sp_X6_isQuestion L xs sio (d + 4) dt hI hM  p2 ⟨by omega, by omega⟩ ) ?_
    rintro _ _ ⟨rfl, h5⟩
    refine ⟨rfl, ?_⟩
    rcases h5 with ⟨rfl, h5⟩ | ⟨rfl, h5⟩
    · skip
      refine go_to (k := 2) (pc' := 17) (L' := [some (.inr (.inr (some 79))), some (.inl p1), some (.inl p2), some (.inl p3), some (.inl p4)]) (st' := [.inl p3]) (w' := (SH, dt)) (fun _ => rfl) ?_
      refine go_call (Q' := _) rfl rfl rfl rfl rfl (sp_X6_isHow L xs sio (d + 4) dt hI  p3 ⟨by omega, by omega⟩ ) ?_
      rintro _ _ ⟨rfl, h6⟩
      refine ⟨rfl, ?_⟩
      rcases h6 with ⟨rfl, h6⟩ | ⟨rfl, h6⟩
      · skip
        refine go_to (k := 4) (pc' := 28) (L' := [some (.inr (.inr (some 79))), some (.inl p1), some (.inl p2), some (.inl p3), some (.inl p4)]) (st' := [.inl 8, .inl 0, .inl p4]) (w' := (SH, dt)) (fun _ => rfl) ?_
        refine go_call (Q' := _) rfl rfl rfl rfl rfl (sp_X6_isIn L xs sio (d + 5) dt hI  p4 ⟨by omega, by omega⟩ 0 ⟨by omega, by omega⟩ 8 ⟨by omega, by omega⟩ ) ?_
        rintro _ _ ⟨rfl, h7⟩
        refine ⟨rfl, ?_⟩
        rcases h7 with ⟨rfl, h7⟩ | ⟨rfl, h7⟩
        · skip
          refine go_to (k := 5) (pc' := 40) (L' := [some (.inr (.inr (some 79))), some (.inl p1), some (.inl p2), some (.inl p3), some (.inl p4)]) (st' := [.inl p3, .inl p2, .inl p1, .inr (.inr (some 79))]) (w' := (SH, dt)) (fun _ => rfl) ?_
          refine go_call (Q' := _) rfl rfl rfl rfl rfl (sp_X6_gathers_f L xs sio (d + 0) dt hI hM  p1 ⟨by omega, by omega⟩ p2 ⟨by omega, by omega⟩ p3 ⟨by omega, by omega⟩ ) ?_
          rintro _ _ ⟨dt9, rfl, hI10, hF11, h8⟩
          refine ⟨rfl, ?_⟩
          have hF12 : Fr [86, 87, 88, 89, 90, 91, 92, 93, 94, 95, 96, 97, 98, 99, 100] dt dt9 := Fr_tr hF hF11 (by decide)
          rcases h8 with ⟨rfl, h8⟩
          refine go_to (k := 4) (pc' := 47) (L' := [some (.inr (.inr (some 79))), some (.inl p1), some (.inl p2), some (.inl p3), some (.inl p4)]) (st' := [.inl 0, .inl p1, .inr (.inr (some 79)), .inr (.inr (some 79))]) (w' := (SH, dt9)) (fun _ => rfl) ?_
          refine go_call (Q' := _) rfl rfl rfl rfl rfl (sp_X6_ofChild_0 L xs sio (d + 5) dt9 hI10 (MW_fr hM hF12 (by decide))  p1 ⟨by omega, by omega⟩ ) ?_
          rintro _ _ ⟨rfl, h13⟩
          refine ⟨rfl, ?_⟩
          rcases h13 with ⟨rfl, h13⟩
          refine go_to (k := 1) (pc' := 52) (L' := [some (.inr (.inr (some 79))), some (.inl p1), some (.inl p2), some (.inl p3), some (.inl p4)]) (st' := [.inl p4, .inl (dt9 80 (((5380 + (4 * p1)) + 0)).toNat), .inr (.inr (some 79))]) (w' := (SH, dt9)) (fun _ => rfl) ?_
          refine go_call (Q' := _) rfl rfl rfl rfl rfl (sp_X6_weighs L xs sio (d + 3) dt9 hI10 (MW_fr hM hF12 (by decide))  (dt9 80 (((5380 + (4 * p1)) + 0)).toNat) ⟨by omega, by omega⟩ p4 ⟨by omega, by omega⟩ ) ?_
          rintro _ _ ⟨dt15, rfl, hI16, hF17, h14⟩
          refine ⟨rfl, ?_⟩
          have hF18 : Fr [86, 87, 88, 89, 90, 91, 92, 93, 94, 95, 96, 97, 98, 99, 100] dt dt15 := Fr_tr hF12 hF17 (by decide)
          rcases h14 with ⟨v_h14, rfl, h14r, h14⟩
          obtain ⟨h14_0, h14_1⟩ := h14
          have wv19 := h14_0
          rw [show dt9 80 = dt 80 from funext (hF18 80 (by decide)), WH_fa h8] at wv19
          refine go_ret (k := 1) (r := some (.inl v_h14)) (w1 := (SH, dt15)) (fun _ => rfl) ?_
          exact ⟨dt15, rfl, hI16, hF18, (Or.inr ⟨_, rfl, ⟨by omega, by omega⟩, ⟨by first | trivial | omega, by rw [show 5380 + 4 * p1.toNat = (((5380 + (4 * p1)) + 0)).toNat by omega]; exact wv19⟩⟩)⟩
        · skip
          refine go_ret (k := 3) (r := some (.inl (-1))) (w1 := (SH, dt)) (fun _ => rfl) ?_
          first | exact ⟨dt, rfl, hI, hF, (Or.inl ⟨rfl, by first | trivial | omega⟩)⟩ | exact ⟨dt, rfl, hI, hF, (Or.inr ⟨_, rfl, ⟨by omega, by omega⟩, ⟨by first | trivial | omega, by rw [show 5380 + 4 * p1.toNat = (((5380 + (4 * p1)) + 0)).toNat by omega]; exact hI⟩⟩)⟩
      · skip
        refine go_ret (k := 3) (r := some (.inl (-1))) (w1 := (SH, dt)) (fun _ => rfl) ?_
        first | exact ⟨dt, rfl, hI, hF, (Or.inl ⟨rfl, by first | trivial | omega⟩)⟩ | exact ⟨dt, rfl, hI, hF, (Or.inr ⟨_, rfl, ⟨by omega, by omega⟩, ⟨by first | trivial | omega, by rw [show 5380 + 4 * p1.toNat = (((5380 + (4 * p1)) + 0)).toNat by omega]; exact hI⟩⟩)⟩
    · skip
      refine go_ret (k := 3) (r := some (.inl (-1))) (w1 := (SH, dt)) (fun _ => rfl) ?_
      first | exact ⟨dt, rfl, hI, hF, (Or.inl ⟨rfl, by first | trivial | omega⟩)⟩ | exact ⟨dt, rfl, hI, hF, (Or.inr ⟨_, rfl, ⟨by omega, by omega⟩, ⟨by first | trivial | omega, by rw [show 5380 + 4 * p1.toNat = (((5380 + (4 * p1)) + 0)).toNat by omega]; exact hI⟩⟩)⟩
  · skip
    refine go_ret (k := 3) (r := some (.inl (-1))) (w1 := (SH, dt)) (fun _ => rfl) ?_
    first | exact ⟨dt, rfl, hI, hF, (Or.inl ⟨rfl, by first | trivial | omega⟩)⟩ | exact ⟨dt, rfl, hI, hF, (Or.inr ⟨_, rfl, ⟨by omega, by omega⟩, ⟨by first | trivial | omega, by rw [show 5380 + 4 * p1.toNat = (((5380 + (4 * p1)) + 0)).toNat by omega]; exact hI⟩⟩)⟩
theorem chk_sp_X2_set_10_0 (L : Nat) (xs : Nat → Int32) (sio : Option Nat) (d : Nat) (dt : Nat → Nat → Int) (hI : InvC dt)  (p2 : Int) (h_p2 : (-2147483648) ≤ p2 ∧ p2 ≤ 2147483647) (h_p0 : 0 < dt 10 3) : GO (am_XX L xs sio) (d) 41 0 [some (.inr (.inr (some 10))), some (.inl 0), some (.inl p2)] [] (SH, dt) (fun r w2 => ∃ dt2 : Nat → Nat → Int, w2 = (SH, dt2) ∧ InvC dt2 ∧ Fr [11] dt dt2 ∧ ((r = none ∧ (∀ j : Nat, ¬ (j : Int) = ((dt 10 3) - 1) * 4 + 0 → dt2 11 j = dt 11 j) ∧ (dt2 11 ((((dt 10 3) - 1) * 4) + 0).toNat = p2)))) := by
  have hF : Fr [11] dt dt := Fr_refl
  have r1 : 0 ≤ dt 10 3 ∧ dt 10 3 ≤ 40 := InvC_get hI 10 3 rfl rfl
  refine go_if (k := 3) (p1 := 34) (p2 := 7) (L' := [some (.inr (.inr (some 10))), some (.inl 0), some (.inl p2)]) (st' := []) (w' := (SH, dt)) (fun _ => rfl) (z_le (a := dt 10 3) ⟨by omega, by omega⟩) (fun c2 => ?_) (fun c2 => ?_)
  · skip
    refine go_ret (k := 1) (r := none) (w1 := (SH, dt)) (fun _ => rfl) ?_
    exact ⟨dt, rfl, hI, hF, ⟨rfl, ⟨by intro j hj; first | exact u2_ne (by omega) | (exfalso; omega), by first | exact u2_eq | (exfalso; omega)⟩⟩⟩
  · skip
    refine go_to (k := 2) (pc' := 9) (L' := [some (.inr (.inr (some 10))), some (.inl 0), some (.inl p2)]) (st' := [.inr (.inr (some 10)), .inl 0]) (w' := (SH, dt)) (fun _ => rfl) ?_
    refine go_smp (L' := [some (.inr (.inr (some 10))), some (.inl 0), some (.inl p2)]) (st' := [.inl 4, .inl 0]) (w' := (SH, dt)) rfl rfl (s_gfc rfl rfl rfl (hI.2 10 1 rfl)) ?_
    refine go_to (k := 8) (pc' := 26) (L' := [some (.inr (.inr (some 10))), some (.inl 0), some (.inl p2)]) (st' := [.inr (.inr (some 10)), .inl ((dt 10 3) - 1), .inr (.inr (some 11))]) (w' := (SH, dt)) (fun _ => rfl) ?_
    refine go_smp (L' := [some (.inr (.inr (some 10))), some (.inl 0), some (.inl p2)]) (st' := [.inl 4, .inl ((dt 10 3) - 1), .inr (.inr (some 11))]) (w' := (SH, dt)) rfl rfl (s_gfc rfl rfl rfl (hI.2 10 1 rfl)) ?_
    refine go_to (k := 4) (pc' := 33) (L' := [some (.inr (.inr (some 10))), some (.inl 0), some (.inl p2)]) (st' := [.inl p2, .inl ((((dt 10 3) - 1) * 4) + 0), .inr (.inr (some 11))]) (w' := (SH, dt)) (fun _ => rfl) ?_
    have hI3 : InvC (u2 dt 11 (((((dt 10 3) - 1) * 4) + 0).toNat) p2) := InvC_u2 hI (lo := -2147483648) (hi := 2147483647) rfl rfl rfl (by omega) (by omega)
    have hF4 : Fr [11] dt (u2 dt 11 (((((dt 10 3) - 1) * 4) + 0).toNat) p2) := Fr_u2 hF (by decide)
    refine go_smp (L' := [some (.inr (.inr (some 10))), some (.inl 0), some (.inl p2)]) (st' := []) (w' := (SH, (u2 dt 11 (((((dt 10 3) - 1) * 4) + 0).toNat) p2))) rfl rfl (s_iast (n := 160) rfl ⟨by omega, by omega⟩ ⟨by omega, by omega⟩) ?_
    refine go_ret (k := 1) (r := none) (w1 := (SH, (u2 dt 11 (((((dt 10 3) - 1) * 4) + 0).toNat) p2))) (fun _ => rfl) ?_
    exact ⟨(u2 dt 11 (((((dt 10 3) - 1) * 4) + 0).toNat) p2), rfl, hI3, hF4, ⟨rfl, ⟨by intro j hj; first | exact u2_ne (by omega) | (exfalso; omega), by first | exact u2_eq | (exfalso; omega)⟩⟩⟩
theorem chk_sp_X2_set_10_1 (L : Nat) (xs : Nat → Int32) (sio : Option Nat) (d : Nat) (dt : Nat → Nat → Int) (hI : InvC dt)  (p2 : Int) (h_p2 : (-2147483648) ≤ p2 ∧ p2 ≤ 2147483647) (h_p0 : 0 < dt 10 3) : GO (am_XX L xs sio) (d) 41 0 [some (.inr (.inr (some 10))), some (.inl 1), some (.inl p2)] [] (SH, dt) (fun r w2 => ∃ dt2 : Nat → Nat → Int, w2 = (SH, dt2) ∧ InvC dt2 ∧ Fr [11] dt dt2 ∧ ((r = none ∧ (∀ j : Nat, ¬ (j : Int) = ((dt 10 3) - 1) * 4 + 1 → dt2 11 j = dt 11 j) ∧ (dt2 11 ((((dt 10 3) - 1) * 4) + 1).toNat = p2)))) := by
  have hF : Fr [11] dt dt := Fr_refl
  have r1 : 0 ≤ dt 10 3 ∧ dt 10 3 ≤ 40 := InvC_get hI 10 3 rfl rfl
  refine go_if (k := 3) (p1 := 34) (p2 := 7) (L' := [some (.inr (.inr (some 10))), some (.inl 1), some (.inl p2)]) (st' := []) (w' := (SH, dt)) (fun _ => rfl) (z_le (a := dt 10 3) ⟨by omega, by omega⟩) (fun c2 => ?_) (fun c2 => ?_)
  · skip
    refine go_ret (k := 1) (r := none) (w1 := (SH, dt)) (fun _ => rfl) ?_
    exact ⟨dt, rfl, hI, hF, ⟨rfl, ⟨by intro j hj; first | exact u2_ne (by omega) | (exfalso; omega), by first | exact u2_eq | (exfalso; omega)⟩⟩⟩
  · skip
    refine go_to (k := 2) (pc' := 9) (L' := [some (.inr (.inr (some 10))), some (.inl 1), some (.inl p2)]) (st' := [.inr (.inr (some 10)), .inl 1]) (w' := (SH, dt)) (fun _ => rfl) ?_
    refine go_smp (L' := [some (.inr (.inr (some 10))), some (.inl 1), some (.inl p2)]) (st' := [.inl 4, .inl 1]) (w' := (SH, dt)) rfl rfl (s_gfc rfl rfl rfl (hI.2 10 1 rfl)) ?_
    refine go_to (k := 8) (pc' := 26) (L' := [some (.inr (.inr (some 10))), some (.inl 1), some (.inl p2)]) (st' := [.inr (.inr (some 10)), .inl ((dt 10 3) - 1), .inr (.inr (some 11))]) (w' := (SH, dt)) (fun _ => rfl) ?_
    refine go_smp (L' := [some (.inr (.inr (some 10))), some (.inl 1), some (.inl p2)]) (st' := [.inl 4, .inl ((dt 10 3) - 1), .inr (.inr (some 11))]) (w' := (SH, dt)) rfl rfl (s_gfc rfl rfl rfl (hI.2 10 1 rfl)) ?_
    refine go_to (k := 4) (pc' := 33) (L' := [some (.inr (.inr (some 10))), some (.inl 1), some (.inl p2)]) (st' := [.inl p2, .inl ((((dt 10 3) - 1) * 4) + 1), .inr (.inr (some 11))]) (w' := (SH, dt)) (fun _ => rfl) ?_
    have hI3 : InvC (u2 dt 11 (((((dt 10 3) - 1) * 4) + 1).toNat) p2) := InvC_u2 hI (lo := -2147483648) (hi := 2147483647) rfl rfl rfl (by omega) (by omega)
    have hF4 : Fr [11] dt (u2 dt 11 (((((dt 10 3) - 1) * 4) + 1).toNat) p2) := Fr_u2 hF (by decide)
    refine go_smp (L' := [some (.inr (.inr (some 10))), some (.inl 1), some (.inl p2)]) (st' := []) (w' := (SH, (u2 dt 11 (((((dt 10 3) - 1) * 4) + 1).toNat) p2))) rfl rfl (s_iast (n := 160) rfl ⟨by omega, by omega⟩ ⟨by omega, by omega⟩) ?_
    refine go_ret (k := 1) (r := none) (w1 := (SH, (u2 dt 11 (((((dt 10 3) - 1) * 4) + 1).toNat) p2))) (fun _ => rfl) ?_
    exact ⟨(u2 dt 11 (((((dt 10 3) - 1) * 4) + 1).toNat) p2), rfl, hI3, hF4, ⟨rfl, ⟨by intro j hj; first | exact u2_ne (by omega) | (exfalso; omega), by first | exact u2_eq | (exfalso; omega)⟩⟩⟩
theorem chk_sp_X2_set_10_2 (L : Nat) (xs : Nat → Int32) (sio : Option Nat) (d : Nat) (dt : Nat → Nat → Int) (hI : InvC dt)  (p2 : Int) (h_p2 : (-2147483648) ≤ p2 ∧ p2 ≤ 2147483647) (h_p0 : 0 < dt 10 3) : GO (am_XX L xs sio) (d) 41 0 [some (.inr (.inr (some 10))), some (.inl 2), some (.inl p2)] [] (SH, dt) (fun r w2 => ∃ dt2 : Nat → Nat → Int, w2 = (SH, dt2) ∧ InvC dt2 ∧ Fr [11] dt dt2 ∧ ((r = none ∧ (∀ j : Nat, ¬ (j : Int) = ((dt 10 3) - 1) * 4 + 2 → dt2 11 j = dt 11 j) ∧ (dt2 11 ((((dt 10 3) - 1) * 4) + 2).toNat = p2)))) := by
  have hF : Fr [11] dt dt := Fr_refl
  have r1 : 0 ≤ dt 10 3 ∧ dt 10 3 ≤ 40 := InvC_get hI 10 3 rfl rfl
  refine go_if (k := 3) (p1 := 34) (p2 := 7) (L' := [some (.inr (.inr (some 10))), some (.inl 2), some (.inl p2)]) (st' := []) (w' := (SH, dt)) (fun _ => rfl) (z_le (a := dt 10 3) ⟨by omega, by omega⟩) (fun c2 => ?_) (fun c2 => ?_)
  · skip
    refine go_ret (k := 1) (r := none) (w1 := (SH, dt)) (fun _ => rfl) ?_
    exact ⟨dt, rfl, hI, hF, ⟨rfl, ⟨by intro j hj; first | exact u2_ne (by omega) | (exfalso; omega), by first | exact u2_eq | (exfalso; omega)⟩⟩⟩
  · skip
    refine go_to (k := 2) (pc' := 9) (L' := [some (.inr (.inr (some 10))), some (.inl 2), some (.inl p2)]) (st' := [.inr (.inr (some 10)), .inl 2]) (w' := (SH, dt)) (fun _ => rfl) ?_
    refine go_smp (L' := [some (.inr (.inr (some 10))), some (.inl 2), some (.inl p2)]) (st' := [.inl 4, .inl 2]) (w' := (SH, dt)) rfl rfl (s_gfc rfl rfl rfl (hI.2 10 1 rfl)) ?_
    refine go_to (k := 8) (pc' := 26) (L' := [some (.inr (.inr (some 10))), some (.inl 2), some (.inl p2)]) (st' := [.inr (.inr (some 10)), .inl ((dt 10 3) - 1), .inr (.inr (some 11))]) (w' := (SH, dt)) (fun _ => rfl) ?_
    refine go_smp (L' := [some (.inr (.inr (some 10))), some (.inl 2), some (.inl p2)]) (st' := [.inl 4, .inl ((dt 10 3) - 1), .inr (.inr (some 11))]) (w' := (SH, dt)) rfl rfl (s_gfc rfl rfl rfl (hI.2 10 1 rfl)) ?_
    refine go_to (k := 4) (pc' := 33) (L' := [some (.inr (.inr (some 10))), some (.inl 2), some (.inl p2)]) (st' := [.inl p2, .inl ((((dt 10 3) - 1) * 4) + 2), .inr (.inr (some 11))]) (w' := (SH, dt)) (fun _ => rfl) ?_
    have hI3 : InvC (u2 dt 11 (((((dt 10 3) - 1) * 4) + 2).toNat) p2) := InvC_u2 hI (lo := -2147483648) (hi := 2147483647) rfl rfl rfl (by omega) (by omega)
    have hF4 : Fr [11] dt (u2 dt 11 (((((dt 10 3) - 1) * 4) + 2).toNat) p2) := Fr_u2 hF (by decide)
    refine go_smp (L' := [some (.inr (.inr (some 10))), some (.inl 2), some (.inl p2)]) (st' := []) (w' := (SH, (u2 dt 11 (((((dt 10 3) - 1) * 4) + 2).toNat) p2))) rfl rfl (s_iast (n := 160) rfl ⟨by omega, by omega⟩ ⟨by omega, by omega⟩) ?_
    refine go_ret (k := 1) (r := none) (w1 := (SH, (u2 dt 11 (((((dt 10 3) - 1) * 4) + 2).toNat) p2))) (fun _ => rfl) ?_
    exact ⟨(u2 dt 11 (((((dt 10 3) - 1) * 4) + 2).toNat) p2), rfl, hI3, hF4, ⟨rfl, ⟨by intro j hj; first | exact u2_ne (by omega) | (exfalso; omega), by first | exact u2_eq | (exfalso; omega)⟩⟩⟩
theorem chk_sp_X2_set_10_3 (L : Nat) (xs : Nat → Int32) (sio : Option Nat) (d : Nat) (dt : Nat → Nat → Int) (hI : InvC dt)  (p2 : Int) (h_p2 : (-2147483648) ≤ p2 ∧ p2 ≤ 2147483647) (h_p0 : 0 < dt 10 3) : GO (am_XX L xs sio) (d) 41 0 [some (.inr (.inr (some 10))), some (.inl 3), some (.inl p2)] [] (SH, dt) (fun r w2 => ∃ dt2 : Nat → Nat → Int, w2 = (SH, dt2) ∧ InvC dt2 ∧ Fr [11] dt dt2 ∧ ((r = none ∧ (∀ j : Nat, ¬ (j : Int) = ((dt 10 3) - 1) * 4 + 3 → dt2 11 j = dt 11 j) ∧ (dt2 11 ((((dt 10 3) - 1) * 4) + 3).toNat = p2)))) := by
  have hF : Fr [11] dt dt := Fr_refl
  have r1 : 0 ≤ dt 10 3 ∧ dt 10 3 ≤ 40 := InvC_get hI 10 3 rfl rfl
  refine go_if (k := 3) (p1 := 34) (p2 := 7) (L' := [some (.inr (.inr (some 10))), some (.inl 3), some (.inl p2)]) (st' := []) (w' := (SH, dt)) (fun _ => rfl) (z_le (a := dt 10 3) ⟨by omega, by omega⟩) (fun c2 => ?_) (fun c2 => ?_)
  · skip
    refine go_ret (k := 1) (r := none) (w1 := (SH, dt)) (fun _ => rfl) ?_
    exact ⟨dt, rfl, hI, hF, ⟨rfl, ⟨by intro j hj; first | exact u2_ne (by omega) | (exfalso; omega), by first | exact u2_eq | (exfalso; omega)⟩⟩⟩
  · skip
    refine go_to (k := 2) (pc' := 9) (L' := [some (.inr (.inr (some 10))), some (.inl 3), some (.inl p2)]) (st' := [.inr (.inr (some 10)), .inl 3]) (w' := (SH, dt)) (fun _ => rfl) ?_
    refine go_smp (L' := [some (.inr (.inr (some 10))), some (.inl 3), some (.inl p2)]) (st' := [.inl 4, .inl 3]) (w' := (SH, dt)) rfl rfl (s_gfc rfl rfl rfl (hI.2 10 1 rfl)) ?_
    refine go_to (k := 8) (pc' := 26) (L' := [some (.inr (.inr (some 10))), some (.inl 3), some (.inl p2)]) (st' := [.inr (.inr (some 10)), .inl ((dt 10 3) - 1), .inr (.inr (some 11))]) (w' := (SH, dt)) (fun _ => rfl) ?_
    refine go_smp (L' := [some (.inr (.inr (some 10))), some (.inl 3), some (.inl p2)]) (st' := [.inl 4, .inl ((dt 10 3) - 1), .inr (.inr (some 11))]) (w' := (SH, dt)) rfl rfl (s_gfc rfl rfl rfl (hI.2 10 1 rfl)) ?_
    refine go_to (k := 4) (pc' := 33) (L' := [some (.inr (.inr (some 10))), some (.inl 3), some (.inl p2)]) (st' := [.inl p2, .inl ((((dt 10 3) - 1) * 4) + 3), .inr (.inr (some 11))]) (w' := (SH, dt)) (fun _ => rfl) ?_
    have hI3 : InvC (u2 dt 11 (((((dt 10 3) - 1) * 4) + 3).toNat) p2) := InvC_u2 hI (lo := -2147483648) (hi := 2147483647) rfl rfl rfl (by omega) (by omega)
    have hF4 : Fr [11] dt (u2 dt 11 (((((dt 10 3) - 1) * 4) + 3).toNat) p2) := Fr_u2 hF (by decide)
    refine go_smp (L' := [some (.inr (.inr (some 10))), some (.inl 3), some (.inl p2)]) (st' := []) (w' := (SH, (u2 dt 11 (((((dt 10 3) - 1) * 4) + 3).toNat) p2))) rfl rfl (s_iast (n := 160) rfl ⟨by omega, by omega⟩ ⟨by omega, by omega⟩) ?_
    refine go_ret (k := 1) (r := none) (w1 := (SH, (u2 dt 11 (((((dt 10 3) - 1) * 4) + 3).toNat) p2))) (fun _ => rfl) ?_
    exact ⟨(u2 dt 11 (((((dt 10 3) - 1) * 4) + 3).toNat) p2), rfl, hI3, hF4, ⟨rfl, ⟨by intro j hj; first | exact u2_ne (by omega) | (exfalso; omega), by first | exact u2_eq | (exfalso; omega)⟩⟩⟩
theorem chk_sp_X2_set_10_4 (L : Nat) (xs : Nat → Int32) (sio : Option Nat) (d : Nat) (dt : Nat → Nat → Int) (hI : InvC dt)  (p2 : Int) (h_p2 : (-2147483648) ≤ p2 ∧ p2 ≤ 2147483647)  : GO (am_XX L xs sio) (d) 41 0 [some (.inr (.inr (some 10))), some (.inl 4), some (.inl p2)] [] (SH, dt) (fun r w2 => w2 = (SH, dt) ∧ ((r = none ∧ True))) := by
  have r1 : 0 ≤ dt 10 3 ∧ dt 10 3 ≤ 40 := InvC_get hI 10 3 rfl rfl
  refine go_if (k := 3) (p1 := 34) (p2 := 7) (L' := [some (.inr (.inr (some 10))), some (.inl 4), some (.inl p2)]) (st' := []) (w' := (SH, dt)) (fun _ => rfl) (z_le (a := dt 10 3) ⟨by omega, by omega⟩) (fun c2 => ?_) (fun c2 => ?_)
  · skip
    refine go_ret (k := 1) (r := none) (w1 := (SH, dt)) (fun _ => rfl) ?_
    exact ⟨rfl, ⟨rfl, trivial⟩⟩
  · skip
    refine go_to (k := 2) (pc' := 9) (L' := [some (.inr (.inr (some 10))), some (.inl 4), some (.inl p2)]) (st' := [.inr (.inr (some 10)), .inl 4]) (w' := (SH, dt)) (fun _ => rfl) ?_
    refine go_smp (L' := [some (.inr (.inr (some 10))), some (.inl 4), some (.inl p2)]) (st' := [.inl 4, .inl 4]) (w' := (SH, dt)) rfl rfl (s_gfc rfl rfl rfl (hI.2 10 1 rfl)) ?_
    refine go_ret (k := 2) (r := none) (w1 := (SH, dt)) (fun _ => rfl) ?_
    exact ⟨rfl, ⟨rfl, trivial⟩⟩
theorem chk_sp_X2_set_10_5 (L : Nat) (xs : Nat → Int32) (sio : Option Nat) (d : Nat) (dt : Nat → Nat → Int) (hI : InvC dt)  (p2 : Int) (h_p2 : (-2147483648) ≤ p2 ∧ p2 ≤ 2147483647)  : GO (am_XX L xs sio) (d) 41 0 [some (.inr (.inr (some 10))), some (.inl 5), some (.inl p2)] [] (SH, dt) (fun r w2 => w2 = (SH, dt) ∧ ((r = none ∧ True))) := by
  have r1 : 0 ≤ dt 10 3 ∧ dt 10 3 ≤ 40 := InvC_get hI 10 3 rfl rfl
  refine go_if (k := 3) (p1 := 34) (p2 := 7) (L' := [some (.inr (.inr (some 10))), some (.inl 5), some (.inl p2)]) (st' := []) (w' := (SH, dt)) (fun _ => rfl) (z_le (a := dt 10 3) ⟨by omega, by omega⟩) (fun c2 => ?_) (fun c2 => ?_)
  · skip
    refine go_ret (k := 1) (r := none) (w1 := (SH, dt)) (fun _ => rfl) ?_
    exact ⟨rfl, ⟨rfl, trivial⟩⟩
  · skip
    refine go_to (k := 2) (pc' := 9) (L' := [some (.inr (.inr (some 10))), some (.inl 5), some (.inl p2)]) (st' := [.inr (.inr (some 10)), .inl 5]) (w' := (SH, dt)) (fun _ => rfl) ?_
    refine go_smp (L' := [some (.inr (.inr (some 10))), some (.inl 5), some (.inl p2)]) (st' := [.inl 4, .inl 5]) (w' := (SH, dt)) rfl rfl (s_gfc rfl rfl rfl (hI.2 10 1 rfl)) ?_
    refine go_ret (k := 2) (r := none) (w1 := (SH, dt)) (fun _ => rfl) ?_
    exact ⟨rfl, ⟨rfl, trivial⟩⟩
theorem chk_sp_X2_add_10f (L : Nat) (xs : Nat → Int32) (sio : Option Nat) (d : Nat) (dt : Nat → Nat → Int) (hI : InvC dt)  (p1 : Int) (h_p1 : (-2147483648) ≤ p1 ∧ p1 ≤ 2147483647) (p2 : Int) (h_p2 : (-2147483648) ≤ p2 ∧ p2 ≤ 2147483647) (p3 : Int) (h_p3 : (-2147483648) ≤ p3 ∧ p3 ≤ 2147483647) (p4 : Int) (h_p4 : (-2147483648) ≤ p4 ∧ p4 ≤ 2147483647) (p5 : Int) (h_p5 : (-2147483648) ≤ p5 ∧ p5 ≤ 2147483647) (p6 : Int) (h_p6 : (-2147483648) ≤ p6 ∧ p6 ≤ 2147483647)  : GO (am_XX L xs sio) (d + 1) 40 0 [some (.inr (.inr (some 10))), some (.inl p1), some (.inl p2), some (.inl p3), some (.inl p4), some (.inl p5), some (.inl p6)] [] (SH, dt) (fun r w2 => ∃ dt2 : Nat → Nat → Int, w2 = (SH, dt2) ∧ InvC dt2 ∧ Fr [10, 11] dt dt2 ∧ ((r = some (.inl (-1)) ∧ (40 ≤ dt 10 3) ∧ (dt2 10 3 = dt 10 3) ∧ (∀ j : Nat, dt2 11 j = dt 11 j)) ∨ (∃ v : Int, r = some (.inl v) ∧ (0 ≤ v ∧ v ≤ 40) ∧ (v = dt 10 3) ∧ (dt 10 3 < 40) ∧ (dt2 10 3 = dt 10 3 + 1) ∧ (∀ j : Nat, (j : Int) < 4 * dt 10 3 → dt2 11 j = dt 11 j) ∧ (dt2 11 (((dt 10 3) * 4) + 0).toNat = p1) ∧ (dt2 11 (((dt 10 3) * 4) + 1).toNat = p2) ∧ (dt2 11 (((dt 10 3) * 4) + 2).toNat = p3) ∧ (dt2 11 (((dt 10 3) * 4) + 3).toNat = p4)))) := by
  have hF : Fr [10, 11] dt dt := Fr_refl
  have r1 : 0 ≤ dt 10 3 ∧ dt 10 3 ≤ 40 := InvC_get hI 10 3 rfl rfl
  refine go_to (k := 1) (pc' := 1) (L' := [some (.inr (.inr (some 10))), some (.inl p1), some (.inl p2), some (.inl p3), some (.inl p4), some (.inl p5), some (.inl p6)]) (st' := [.inr (.inr (some 10))]) (w' := (SH, dt)) (fun _ => rfl) ?_
  refine go_call (Q' := _) rfl rfl rfl rfl rfl (sp_X2_isFull_10 L xs sio (d + 0) dt hI   ) ?_
  rintro _ _ ⟨rfl, h2⟩
  refine ⟨rfl, ?_⟩
  rcases h2 with ⟨rfl, h2⟩ | ⟨rfl, h2⟩
  · skip
    refine go_ret (k := 3) (r := some (.inl (-1))) (w1 := (SH, dt)) (fun _ => rfl) ?_
    first | exact ⟨dt, rfl, hI, hF, (Or.inl ⟨rfl, ⟨by first | trivial | omega, by first | trivial | omega, by exact fun _ => rfl⟩⟩)⟩ | exact ⟨dt, rfl, hI, hF, (Or.inr ⟨_, rfl, ⟨by omega, by omega⟩, ⟨by first | trivial | omega, by first | trivial | omega, by first | trivial | omega, by assumption, by assumption, by assumption, by assumption, by assumption⟩⟩)⟩
  · skip
    refine go_to (k := 6) (pc' := 16) (L' := [some (.inr (.inr (some 10))), some (.inl p1), some (.inl p2), some (.inl p3), some (.inl p4), some (.inl p5), some (.inl p6)]) (st' := [.inl ((dt 10 3) + 1), .inr (.inr (some 10))]) (w' := (SH, dt)) (fun _ => rfl) ?_
    have hI3 : InvC (u2 dt 10 3 ((dt 10 3) + 1)) := InvC_u2 hI (lo := 0) (hi := 40) rfl rfl rfl (by omega) (by omega)
    have hF4 : Fr [10, 11] dt (u2 dt 10 3 ((dt 10 3) + 1)) := Fr_u2 hF (by decide)
    have w5 : (u2 dt 10 3 ((dt 10 3) + 1)) 10 3 = (dt 10 3) + 1 := rfl
    refine go_smp (L' := [some (.inr (.inr (some 10))), some (.inl p1), some (.inl p2), some (.inl p3), some (.inl p4), some (.inl p5), some (.inl p6)]) (st' := []) (w' := (SH, (u2 dt 10 3 ((dt 10 3) + 1)))) rfl rfl (s_pf rfl rfl rfl rfl ⟨by omega, by omega⟩) ?_
    refine go_to (k := 3) (pc' := 22) (L' := [some (.inr (.inr (some 10))), some (.inl p1), some (.inl p2), some (.inl p3), some (.inl p4), some (.inl p5), some (.inl p6)]) (st' := [.inl p1, .inl 0, .inr (.inr (some 10))]) (w' := (SH, (u2 dt 10 3 ((dt 10 3) + 1)))) (fun _ => rfl) ?_
    refine go_call (Q' := _) rfl rfl rfl rfl rfl (sp_X2_set_10_0 L xs sio (d + 0) (u2 dt 10 3 ((dt 10 3) + 1)) hI3  p1 ⟨by omega, by omega⟩ (by first | trivial | omega)) ?_
    rintro _ _ ⟨dt7, rfl, hI8, hF9, h6⟩
    refine ⟨rfl, ?_⟩
    have hF10 : Fr [10, 11] dt dt7 := Fr_tr hF4 hF9 (by decide)
    have w11 : dt7 10 3 = (u2 dt 10 3 ((dt 10 3) + 1)) 10 3 := hF9 10 (by decide) 3
    rcases h6 with ⟨rfl, h6⟩
    obtain ⟨h6_0, h6_1⟩ := h6
    have B12 : ∀ j : Nat, (j : Int) < 4 * dt 10 3 → dt7 11 j = dt 11 j := fun j hj => (h6_0 j (by omega)).trans rfl
    have Y13 : dt7 11 (((dt 10 3) * 4) + 0).toNat = p1 := by rw [show (((dt 10 3) * 4) + 0).toNat = (((((u2 dt 10 3 ((dt 10 3) + 1)) 10 3) - 1) * 4) + 0).toNat by omega]; exact h6_1
    refine go_to (k := 3) (pc' := 28) (L' := [some (.inr (.inr (some 10))), some (.inl p1), some (.inl p2), some (.inl p3), some (.inl p4), some (.inl p5), some (.inl p6)]) (st' := [.inl p2, .inl 1, .inr (.inr (some 10))]) (w' := (SH, dt7)) (fun _ => rfl) ?_
    refine go_call (Q' := _) rfl rfl rfl rfl rfl (sp_X2_set_10_1 L xs sio (d + 0) dt7 hI8  p2 ⟨by omega, by omega⟩ (by first | trivial | omega)) ?_
    rintro _ _ ⟨dt15, rfl, hI16, hF17, h14⟩
    refine ⟨rfl, ?_⟩
    have hF18 : Fr [10, 11] dt dt15 := Fr_tr hF10 hF17 (by decide)
    have w19 : dt15 10 3 = dt7 10 3 := hF17 10 (by decide) 3
    rcases h14 with ⟨rfl, h14⟩
    obtain ⟨h14_0, h14_1⟩ := h14
    have B20 : ∀ j : Nat, (j : Int) < 4 * dt 10 3 → dt15 11 j = dt 11 j := fun j hj => (h14_0 j (by omega)).trans (B12 j hj)
    have Y21 : dt15 11 (((dt 10 3) * 4) + 0).toNat = p1 := (h14_0 _ (by omega)).trans Y13
    have Y22 : dt15 11 (((dt 10 3) * 4) + 1).toNat = p2 := by rw [show (((dt 10 3) * 4) + 1).toNat = ((((dt7 10 3) - 1) * 4) + 1).toNat by omega]; exact h14_1
    refine go_to (k := 3) (pc' := 34) (L' := [some (.inr (.inr (some 10))), some (.inl p1), some (.inl p2), some (.inl p3), some (.inl p4), some (.inl p5), some (.inl p6)]) (st' := [.inl p3, .inl 2, .inr (.inr (some 10))]) (w' := (SH, dt15)) (fun _ => rfl) ?_
    refine go_call (Q' := _) rfl rfl rfl rfl rfl (sp_X2_set_10_2 L xs sio (d + 0) dt15 hI16  p3 ⟨by omega, by omega⟩ (by first | trivial | omega)) ?_
    rintro _ _ ⟨dt24, rfl, hI25, hF26, h23⟩
    refine ⟨rfl, ?_⟩
    have hF27 : Fr [10, 11] dt dt24 := Fr_tr hF18 hF26 (by decide)
    have w28 : dt24 10 3 = dt15 10 3 := hF26 10 (by decide) 3
    rcases h23 with ⟨rfl, h23⟩
    obtain ⟨h23_0, h23_1⟩ := h23
    have B29 : ∀ j : Nat, (j : Int) < 4 * dt 10 3 → dt24 11 j = dt 11 j := fun j hj => (h23_0 j (by omega)).trans (B20 j hj)
    have Y30 : dt24 11 (((dt 10 3) * 4) + 0).toNat = p1 := (h23_0 _ (by omega)).trans Y21
    have Y31 : dt24 11 (((dt 10 3) * 4) + 1).toNat = p2 := (h23_0 _ (by omega)).trans Y22
    have Y32 : dt24 11 (((dt 10 3) * 4) + 2).toNat = p3 := by rw [show (((dt 10 3) * 4) + 2).toNat = ((((dt15 10 3) - 1) * 4) + 2).toNat by omega]; exact h23_1
    refine go_to (k := 3) (pc' := 41) (L' := [some (.inr (.inr (some 10))), some (.inl p1), some (.inl p2), some (.inl p3), some (.inl p4), some (.inl p5), some (.inl p6)]) (st' := [.inl p4, .inl 3, .inr (.inr (some 10))]) (w' := (SH, dt24)) (fun _ => rfl) ?_
    refine go_call (Q' := _) rfl rfl rfl rfl rfl (sp_X2_set_10_3 L xs sio (d + 0) dt24 hI25  p4 ⟨by omega, by omega⟩ (by first | trivial | omega)) ?_
    rintro _ _ ⟨dt34, rfl, hI35, hF36, h33⟩
    refine ⟨rfl, ?_⟩
    have hF37 : Fr [10, 11] dt dt34 := Fr_tr hF27 hF36 (by decide)
    have w38 : dt34 10 3 = dt24 10 3 := hF36 10 (by decide) 3
    rcases h33 with ⟨rfl, h33⟩
    obtain ⟨h33_0, h33_1⟩ := h33
    have B39 : ∀ j : Nat, (j : Int) < 4 * dt 10 3 → dt34 11 j = dt 11 j := fun j hj => (h33_0 j (by omega)).trans (B29 j hj)
    have Y40 : dt34 11 (((dt 10 3) * 4) + 0).toNat = p1 := (h33_0 _ (by omega)).trans Y30
    have Y41 : dt34 11 (((dt 10 3) * 4) + 1).toNat = p2 := (h33_0 _ (by omega)).trans Y31
    have Y42 : dt34 11 (((dt 10 3) * 4) + 2).toNat = p3 := (h33_0 _ (by omega)).trans Y32
    have Y43 : dt34 11 (((dt 10 3) * 4) + 3).toNat = p4 := by rw [show (((dt 10 3) * 4) + 3).toNat = ((((dt24 10 3) - 1) * 4) + 3).toNat by omega]; exact h33_1
    refine go_to (k := 3) (pc' := 48) (L' := [some (.inr (.inr (some 10))), some (.inl p1), some (.inl p2), some (.inl p3), some (.inl p4), some (.inl p5), some (.inl p6)]) (st' := [.inl p5, .inl 4, .inr (.inr (some 10))]) (w' := (SH, dt34)) (fun _ => rfl) ?_
    refine go_call (Q' := _) rfl rfl rfl rfl rfl (sp_X2_set_10_4 L xs sio (d + 0) dt34 hI35  p5 ⟨by omega, by omega⟩ ) ?_
    rintro _ _ ⟨rfl, h44⟩
    refine ⟨rfl, ?_⟩
    rcases h44 with ⟨rfl, h44⟩
    refine go_to (k := 3) (pc' := 55) (L' := [some (.inr (.inr (some 10))), some (.inl p1), some (.inl p2), some (.inl p3), some (.inl p4), some (.inl p5), some (.inl p6)]) (st' := [.inl p6, .inl 5, .inr (.inr (some 10))]) (w' := (SH, dt34)) (fun _ => rfl) ?_
    refine go_call (Q' := _) rfl rfl rfl rfl rfl (sp_X2_set_10_5 L xs sio (d + 0) dt34 hI35  p6 ⟨by omega, by omega⟩ ) ?_
    rintro _ _ ⟨rfl, h45⟩
    refine ⟨rfl, ?_⟩
    rcases h45 with ⟨rfl, h45⟩
    have r46 : 0 ≤ dt34 10 3 ∧ dt34 10 3 ≤ 40 := InvC_get hI35 10 3 rfl rfl
    refine go_ret (k := 5) (r := some (.inl ((dt34 10 3) - 1))) (w1 := (SH, dt34)) (fun _ => rfl) ?_
    exact ⟨dt34, rfl, hI35, hF37, (Or.inr ⟨_, rfl, ⟨by omega, by omega⟩, ⟨by first | trivial | omega, by first | trivial | omega, by first | trivial | omega, by assumption, by assumption, by assumption, by assumption, by assumption⟩⟩)⟩
theorem chk_sp_X5_child_f (L : Nat) (xs : Nat → Int32) (sio : Option Nat) (d : Nat) (dt : Nat → Nat → Int) (hI : InvC dt)  (p1 : Int) (h_p1 : (-2147483648) ≤ p1 ∧ p1 ≤ 2147483647) (p2 : Int) (h_p2 : (-2147483648) ≤ p2 ∧ p2 ≤ 2147483647) (p3 : Int) (h_p3 : (-2147483648) ≤ p3 ∧ p3 ≤ 2147483647) (p4 : Int) (h_p4 : (-2147483648) ≤ p4 ∧ p4 ≤ 2147483647)  : GO (am_XX L xs sio) (d + 2) 77 0 [some (.inr (.inr (some 0))), some (.inl p1), some (.inl p2), some (.inl p3), some (.inl p4)] [] (SH, dt) (fun r w2 => ∃ dt2 : Nat → Nat → Int, w2 = (SH, dt2) ∧ InvC dt2 ∧ Fr [10, 11] dt dt2 ∧ ((r = some (.inl (-1)) ∧ (¬ ((0 ≤ p1 ∧ p1 ≤ 3) ∧ (0 ≤ p2 ∧ p2 ≤ 120) ∧ (0 ≤ p3 ∧ p3 ≤ 9) ∧ (0 ≤ p4 ∧ p4 ≤ 1) ∧ dt 10 3 < 40)) ∧ (dt2 10 3 = dt 10 3) ∧ (∀ j : Nat, dt2 11 j = dt 11 j)) ∨ (∃ v : Int, r = some (.inl v) ∧ ((-2147483648) ≤ v ∧ v ≤ 2147483647) ∧ (v = dt 10 3) ∧ ((0 ≤ p1 ∧ p1 ≤ 3) ∧ (0 ≤ p2 ∧ p2 ≤ 120) ∧ (0 ≤ p3 ∧ p3 ≤ 9) ∧ (0 ≤ p4 ∧ p4 ≤ 1) ∧ dt 10 3 < 40) ∧ (dt2 10 3 = dt 10 3 + 1) ∧ (∀ j : Nat, (j : Int) < 4 * dt 10 3 → dt2 11 j = dt 11 j) ∧ (dt2 11 (((dt 10 3) * 4) + 0).toNat = p1) ∧ (dt2 11 (((dt 10 3) * 4) + 1).toNat = p2) ∧ (dt2 11 (((dt 10 3) * 4) + 2).toNat = p3) ∧ (dt2 11 (((dt 10 3) * 4) + 3).toNat = p4)))) := by
  have hF : Fr [10, 11] dt dt := Fr_refl
  have r1 : 0 ≤ dt 10 3 ∧ dt 10 3 ≤ 40 := InvC_get hI 10 3 rfl rfl
  refine go_to (k := 1) (pc' := 1) (L' := [some (.inr (.inr (some 0))), some (.inl p1), some (.inl p2), some (.inl p3), some (.inl p4)]) (st' := [.inl p1]) (w' := (SH, dt)) (fun _ => rfl) ?_
  refine go_call (Q' := _) rfl rfl rfl rfl rfl (sp_X5_isLaw L xs sio (d + 0) dt hI  p1 ⟨by omega, by omega⟩ ) ?_
  rintro _ _ ⟨rfl, h2⟩
  refine ⟨rfl, ?_⟩
  rcases h2 with ⟨rfl, h2⟩ | ⟨rfl, h2⟩
  · skip
    refine go_to (k := 4) (pc' := 11) (L' := [some (.inr (.inr (some 0))), some (.inl p1), some (.inl p2), some (.inl p3), some (.inl p4)]) (st' := [.inl 120, .inl 0, .inl p2]) (w' := (SH, dt)) (fun _ => rfl) ?_
    refine go_call (Q' := _) rfl rfl rfl rfl rfl (sp_X5_within L xs sio (d + 1) dt hI  p2 ⟨by omega, by omega⟩ 0 ⟨by omega, by omega⟩ 120 ⟨by omega, by omega⟩ ) ?_
    rintro _ _ ⟨rfl, h3⟩
    refine ⟨rfl, ?_⟩
    rcases h3 with ⟨rfl, h3⟩ | ⟨rfl, h3⟩
    · skip
      refine go_to (k := 4) (pc' := 21) (L' := [some (.inr (.inr (some 0))), some (.inl p1), some (.inl p2), some (.inl p3), some (.inl p4)]) (st' := [.inl 9, .inl 0, .inl p3]) (w' := (SH, dt)) (fun _ => rfl) ?_
      refine go_call (Q' := _) rfl rfl rfl rfl rfl (sp_X5_within L xs sio (d + 1) dt hI  p3 ⟨by omega, by omega⟩ 0 ⟨by omega, by omega⟩ 9 ⟨by omega, by omega⟩ ) ?_
      rintro _ _ ⟨rfl, h4⟩
      refine ⟨rfl, ?_⟩
      rcases h4 with ⟨rfl, h4⟩ | ⟨rfl, h4⟩
      · skip
        refine go_to (k := 4) (pc' := 31) (L' := [some (.inr (.inr (some 0))), some (.inl p1), some (.inl p2), some (.inl p3), some (.inl p4)]) (st' := [.inl 1, .inl 0, .inl p4]) (w' := (SH, dt)) (fun _ => rfl) ?_
        refine go_call (Q' := _) rfl rfl rfl rfl rfl (sp_X5_within L xs sio (d + 1) dt hI  p4 ⟨by omega, by omega⟩ 0 ⟨by omega, by omega⟩ 1 ⟨by omega, by omega⟩ ) ?_
        rintro _ _ ⟨rfl, h5⟩
        refine ⟨rfl, ?_⟩
        rcases h5 with ⟨rfl, h5⟩ | ⟨rfl, h5⟩
        · skip
          refine go_to (k := 10) (pc' := 53) (L' := [some (.inr (.inr (some 0))), some (.inl p1), some (.inl p2), some (.inl p3), some (.inl p4)]) (st' := [.inl 0, .inl 0, .inl p4, .inl p3, .inl p2, .inl p1, .inr (.inr (some 10))]) (w' := (SH, dt)) (fun _ => rfl) ?_
          refine go_call (Q' := _) rfl rfl rfl rfl rfl (sp_X2_add_10f L xs sio (d + 0) dt hI  p1 ⟨by omega, by omega⟩ p2 ⟨by omega, by omega⟩ p3 ⟨by omega, by omega⟩ p4 ⟨by omega, by omega⟩ 0 ⟨by omega, by omega⟩ 0 ⟨by omega, by omega⟩ ) ?_
          rintro _ _ ⟨dt7, rfl, hI8, hF9, h6⟩
          refine ⟨rfl, ?_⟩
          have hF10 : Fr [10, 11] dt dt7 := Fr_tr hF hF9 (by decide)
          rcases h6 with ⟨rfl, h6⟩ | ⟨v_h6, rfl, h6r, h6⟩
          · skip
            obtain ⟨h6_0, h6_1, h6_2⟩ := h6
            refine go_ret (k := 1) (r := some (.inl (-1))) (w1 := (SH, dt7)) (fun _ => rfl) ?_
            first | exact ⟨dt7, rfl, hI8, hF10, (Or.inl ⟨rfl, ⟨by first | trivial | omega, by first | trivial | omega, by first | exact fun _ => rfl | assumption⟩⟩)⟩ | exact ⟨dt7, rfl, hI8, hF10, (Or.inr ⟨_, rfl, ⟨by omega, by omega⟩, ⟨by first | trivial | omega, by first | trivial | omega, by first | trivial | omega, by assumption, by assumption, by assumption, by assumption, by assumption⟩⟩)⟩
          · skip
            obtain ⟨h6_0, h6_1, h6_2, h6_3, h6_4, h6_5, h6_6, h6_7⟩ := h6
            refine go_ret (k := 1) (r := some (.inl v_h6)) (w1 := (SH, dt7)) (fun _ => rfl) ?_
            exact ⟨dt7, rfl, hI8, hF10, (Or.inr ⟨_, rfl, ⟨by omega, by omega⟩, ⟨by first | trivial | omega, by first | trivial | omega, by first | trivial | omega, by assumption, by assumption, by assumption, by assumption, by assumption⟩⟩)⟩
        · skip
          refine go_ret (k := 3) (r := some (.inl (-1))) (w1 := (SH, dt)) (fun _ => rfl) ?_
          first | exact ⟨dt, rfl, hI, hF, (Or.inl ⟨rfl, ⟨by first | trivial | omega, by first | trivial | omega, by first | exact fun _ => rfl | assumption⟩⟩)⟩ | exact ⟨dt, rfl, hI, hF, (Or.inr ⟨_, rfl, ⟨by omega, by omega⟩, ⟨by first | trivial | omega, by first | trivial | omega, by first | trivial | omega, by assumption, by assumption, by assumption, by assumption, by assumption⟩⟩)⟩
      · skip
        refine go_ret (k := 3) (r := some (.inl (-1))) (w1 := (SH, dt)) (fun _ => rfl) ?_
        first | exact ⟨dt, rfl, hI, hF, (Or.inl ⟨rfl, ⟨by first | trivial | omega, by first | trivial | omega, by first | exact fun _ => rfl | assumption⟩⟩)⟩ | exact ⟨dt, rfl, hI, hF, (Or.inr ⟨_, rfl, ⟨by omega, by omega⟩, ⟨by first | trivial | omega, by first | trivial | omega, by first | trivial | omega, by assumption, by assumption, by assumption, by assumption, by assumption⟩⟩)⟩
    · skip
      refine go_ret (k := 3) (r := some (.inl (-1))) (w1 := (SH, dt)) (fun _ => rfl) ?_
      first | exact ⟨dt, rfl, hI, hF, (Or.inl ⟨rfl, ⟨by first | trivial | omega, by first | trivial | omega, by first | exact fun _ => rfl | assumption⟩⟩)⟩ | exact ⟨dt, rfl, hI, hF, (Or.inr ⟨_, rfl, ⟨by omega, by omega⟩, ⟨by first | trivial | omega, by first | trivial | omega, by first | trivial | omega, by assumption, by assumption, by assumption, by assumption, by assumption⟩⟩)⟩
  · skip
    refine go_ret (k := 3) (r := some (.inl (-1))) (w1 := (SH, dt)) (fun _ => rfl) ?_
    first | exact ⟨dt, rfl, hI, hF, (Or.inl ⟨rfl, ⟨by first | trivial | omega, by first | trivial | omega, by first | exact fun _ => rfl | assumption⟩⟩)⟩ | exact ⟨dt, rfl, hI, hF, (Or.inr ⟨_, rfl, ⟨by omega, by omega⟩, ⟨by first | trivial | omega, by first | trivial | omega, by first | trivial | omega, by assumption, by assumption, by assumption, by assumption, by assumption⟩⟩)⟩
theorem chk_sp_X2_copyFrom_10f (L : Nat) (xs : Nat → Int32) (sio : Option Nat) (d : Nat) (dt : Nat → Nat → Int) (hI : InvC dt)    : GO (am_XX L xs sio) (d + 1) 42 0 [some (.inr (.inr (some 10))), some (.inr (.inr (some 27)))] [] (SH, dt) (fun r w2 => ∃ dt2 : Nat → Nat → Int, w2 = (SH, dt2) ∧ InvC dt2 ∧ Fr [10, 11] dt dt2 ∧ ((r = none ∧ (dt2 10 3 = dt 27 3) ∧ (∀ j : Nat, j < 160 → dt2 11 j = dt 28 j)))) := by
  have hF : Fr [10, 11] dt dt := Fr_refl
  have r1 : 0 ≤ dt 27 3 ∧ dt 27 3 ≤ 40 := InvC_get hI 27 3 rfl rfl
  refine go_to (k := 4) (pc' := 6) (L' := [some (.inr (.inr (some 10))), some (.inr (.inr (some 27)))]) (st' := [.inr (.inr (some 10)), .inl (dt 27 3), .inr (.inr (some 10))]) (w' := (SH, dt)) (fun _ => rfl) ?_
  refine go_smp (L' := [some (.inr (.inr (some 10))), some (.inr (.inr (some 27)))]) (st' := [.inl 40, .inl (dt 27 3), .inr (.inr (some 10))]) (w' := (SH, dt)) rfl rfl (s_gfc rfl rfl rfl (hI.2 10 0 rfl)) ?_
  refine go_call (Q' := _) rfl rfl rfl rfl rfl (sp_J9_min_7cf53 L xs sio (d + 0) dt hI  (dt 27 3) ⟨by omega, by omega⟩ 40 ⟨by omega, by omega⟩ ) ?_
  rintro _ _ ⟨rfl, h2⟩
  refine ⟨rfl, ?_⟩
  rcases h2 with ⟨v_h2, rfl, h2r, h2⟩
  have hI3 : InvC (u2 dt 10 3 v_h2) := InvC_u2 hI (lo := 0) (hi := 40) rfl rfl rfl (by omega) (by omega)
  have hF4 : Fr [10, 11] dt (u2 dt 10 3 v_h2) := Fr_u2 hF (by decide)
  have w5 : (u2 dt 10 3 v_h2) 10 3 = v_h2 := rfl
  refine go_smp (L' := [some (.inr (.inr (some 10))), some (.inr (.inr (some 27)))]) (st' := []) (w' := (SH, (u2 dt 10 3 v_h2))) rfl rfl (s_pf rfl rfl rfl rfl ⟨by omega, by omega⟩) ?_
  refine go_to (k := 12) (pc' := 35) (L' := [some (.inr (.inr (some 10))), some (.inr (.inr (some 27)))]) (st' := [.inl 160, .inl 160, .inl 0, .inr (.inr (some 11)), .inl 0, .inr (.inr (some 28))]) (w' := (SH, (u2 dt 10 3 v_h2))) (fun _ => rfl) ?_
  refine go_call (Q' := _) rfl rfl rfl rfl rfl (sp_J9_min_7cf53 L xs sio (d + 0) (u2 dt 10 3 v_h2) hI3  160 ⟨by omega, by omega⟩ 160 ⟨by omega, by omega⟩ ) ?_
  rintro _ _ ⟨rfl, h6⟩
  refine ⟨rfl, ?_⟩
  rcases h6 with ⟨v_h6, rfl, h6r, h6⟩
  have hI7 : InvC (am_cp (u2 dt 10 3 v_h2) 28 11 0 0 (v_h6).toNat) := InvC_cp hI3 (fun _ _ => rfl) (fun _ _ => rfl) (fun _ => rfl)
  have hF8 : Fr [10, 11] dt (am_cp (u2 dt 10 3 v_h2) 28 11 0 0 (v_h6).toNat) := Fr_cp hF4 (by decide)
  have w9 : (am_cp (u2 dt 10 3 v_h2) 28 11 0 0 (v_h6).toNat) 10 3 = (u2 dt 10 3 v_h2) 10 3 := rfl
  refine go_cpy (L' := [some (.inr (.inr (some 10))), some (.inr (.inr (some 27)))]) (st' := []) (w' := (SH, (am_cp (u2 dt 10 3 v_h2) 28 11 0 0 (v_h6).toNat))) rfl rfl (s_cpy (n0 := 160) (n1 := 160) rfl rfl ⟨⟨by omega, by omega, by omega⟩, by omega, by omega, by decide⟩) ?_
  refine go_ret (k := 1) (r := none) (w1 := (SH, (am_cp (u2 dt 10 3 v_h2) 28 11 0 0 (v_h6).toNat))) (fun _ => rfl) ?_
  exact ⟨(am_cp (u2 dt 10 3 v_h2) 28 11 0 0 (v_h6).toNat), rfl, hI7, hF8, ⟨rfl, ⟨by first | trivial | omega, by intro j hj; exact (cp_atv (by omega)).trans rfl⟩⟩⟩
theorem chk_sp_X2_copyFrom_27f (L : Nat) (xs : Nat → Int32) (sio : Option Nat) (d : Nat) (dt : Nat → Nat → Int) (hI : InvC dt)    : GO (am_XX L xs sio) (d + 1) 42 0 [some (.inr (.inr (some 27))), some (.inr (.inr (some 10)))] [] (SH, dt) (fun r w2 => ∃ dt2 : Nat → Nat → Int, w2 = (SH, dt2) ∧ InvC dt2 ∧ Fr [27, 28] dt dt2 ∧ ((r = none ∧ (dt2 27 3 = dt 10 3) ∧ (∀ j : Nat, j < 160 → dt2 28 j = dt 11 j)))) := by
  have hF : Fr [27, 28] dt dt := Fr_refl
  have r1 : 0 ≤ dt 10 3 ∧ dt 10 3 ≤ 40 := InvC_get hI 10 3 rfl rfl
  refine go_to (k := 4) (pc' := 6) (L' := [some (.inr (.inr (some 27))), some (.inr (.inr (some 10)))]) (st' := [.inr (.inr (some 27)), .inl (dt 10 3), .inr (.inr (some 27))]) (w' := (SH, dt)) (fun _ => rfl) ?_
  refine go_smp (L' := [some (.inr (.inr (some 27))), some (.inr (.inr (some 10)))]) (st' := [.inl 40, .inl (dt 10 3), .inr (.inr (some 27))]) (w' := (SH, dt)) rfl rfl (s_gfc rfl rfl rfl (hI.2 27 0 rfl)) ?_
  refine go_call (Q' := _) rfl rfl rfl rfl rfl (sp_J9_min_7cf53 L xs sio (d + 0) dt hI  (dt 10 3) ⟨by omega, by omega⟩ 40 ⟨by omega, by omega⟩ ) ?_
  rintro _ _ ⟨rfl, h2⟩
  refine ⟨rfl, ?_⟩
  rcases h2 with ⟨v_h2, rfl, h2r, h2⟩
  have hI3 : InvC (u2 dt 27 3 v_h2) := InvC_u2 hI (lo := 0) (hi := 40) rfl rfl rfl (by omega) (by omega)
  have hF4 : Fr [27, 28] dt (u2 dt 27 3 v_h2) := Fr_u2 hF (by decide)
  have w5 : (u2 dt 27 3 v_h2) 27 3 = v_h2 := rfl
  refine go_smp (L' := [some (.inr (.inr (some 27))), some (.inr (.inr (some 10)))]) (st' := []) (w' := (SH, (u2 dt 27 3 v_h2))) rfl rfl (s_pf rfl rfl rfl rfl ⟨by omega, by omega⟩) ?_
  refine go_to (k := 12) (pc' := 35) (L' := [some (.inr (.inr (some 27))), some (.inr (.inr (some 10)))]) (st' := [.inl 160, .inl 160, .inl 0, .inr (.inr (some 28)), .inl 0, .inr (.inr (some 11))]) (w' := (SH, (u2 dt 27 3 v_h2))) (fun _ => rfl) ?_
  refine go_call (Q' := _) rfl rfl rfl rfl rfl (sp_J9_min_7cf53 L xs sio (d + 0) (u2 dt 27 3 v_h2) hI3  160 ⟨by omega, by omega⟩ 160 ⟨by omega, by omega⟩ ) ?_
  rintro _ _ ⟨rfl, h6⟩
  refine ⟨rfl, ?_⟩
  rcases h6 with ⟨v_h6, rfl, h6r, h6⟩
  have hI7 : InvC (am_cp (u2 dt 27 3 v_h2) 11 28 0 0 (v_h6).toNat) := InvC_cp hI3 (fun _ _ => rfl) (fun _ _ => rfl) (fun _ => rfl)
  have hF8 : Fr [27, 28] dt (am_cp (u2 dt 27 3 v_h2) 11 28 0 0 (v_h6).toNat) := Fr_cp hF4 (by decide)
  have w9 : (am_cp (u2 dt 27 3 v_h2) 11 28 0 0 (v_h6).toNat) 27 3 = (u2 dt 27 3 v_h2) 27 3 := rfl
  refine go_cpy (L' := [some (.inr (.inr (some 27))), some (.inr (.inr (some 10)))]) (st' := []) (w' := (SH, (am_cp (u2 dt 27 3 v_h2) 11 28 0 0 (v_h6).toNat))) rfl rfl (s_cpy (n0 := 160) (n1 := 160) rfl rfl ⟨⟨by omega, by omega, by omega⟩, by omega, by omega, by decide⟩) ?_
  refine go_ret (k := 1) (r := none) (w1 := (SH, (am_cp (u2 dt 27 3 v_h2) 11 28 0 0 (v_h6).toNat))) (fun _ => rfl) ?_
  exact ⟨(am_cp (u2 dt 27 3 v_h2) 11 28 0 0 (v_h6).toNat), rfl, hI7, hF8, ⟨rfl, ⟨by first | trivial | omega, by intro j hj; exact (cp_atv (by omega)).trans rfl⟩⟩⟩
theorem chk_sp_X0_copyFrom_1w (L : Nat) (xs : Nat → Int32) (sio : Option Nat) (d : Nat) (dt : Nat → Nat → Int) (hI : InvC dt)    : GO (am_XX L xs sio) (d + 2) 4 0 [some (.inr (.inr (some 1))), some (.inr (.inr (some 18)))] [] (SH, dt) (fun r w2 => ∃ dt2 : Nat → Nat → Int, w2 = (SH, dt2) ∧ InvC dt2 ∧ Fr [1, 2, 3, 4, 5, 6, 7, 8, 9, 10, 11, 12, 13, 14, 15, 16, 17] dt dt2 ∧ ((r = none ∧ (dt2 1 0 = dt 18 0) ∧ (dt2 7 3 = dt 24 3) ∧ (dt2 10 3 = dt 27 3) ∧ (dt2 12 3 = dt 29 3) ∧ (dt2 14 3 = dt 31 3) ∧ (dt2 16 3 = dt 33 3) ∧ (∀ j : Nat, j < 192 → dt2 2 j = dt 19 j) ∧ (∀ j : Nat, j < 8 → dt2 3 j = dt 20 j) ∧ (∀ j : Nat, j < 256 → dt2 4 j = dt 21 j) ∧ (∀ j : Nat, j < 4 → dt2 5 j = dt 22 j) ∧ (∀ j : Nat, j < 2000 → dt2 6 j = dt 23 j) ∧ (∀ j : Nat, j < 60 → dt2 8 j = dt 25 j) ∧ (∀ j : Nat, j < 132 → dt2 9 j = dt 26 j) ∧ (∀ j : Nat, j < 160 → dt2 11 j = dt 28 j)))) := by
  have hF : Fr [1, 2, 3, 4, 5, 6, 7, 8, 9, 10, 11, 12, 13, 14, 15, 16, 17] dt dt := Fr_refl
  have r1 : (-2147483648) ≤ dt 18 0 ∧ dt 18 0 ≤ 2147483647 := InvC_get hI 18 0 rfl rfl
  refine go_to (k := 3) (pc' := 5) (L' := [some (.inr (.inr (some 1))), some (.inr (.inr (some 18)))]) (st' := [.inl (dt 18 0), .inr (.inr (some 1))]) (w' := (SH, dt)) (fun _ => rfl) ?_
  have hI2 : InvC (u2 dt 1 0 (dt 18 0)) := InvC_u2 hI (lo := -2147483648) (hi := 2147483647) rfl rfl rfl (by omega) (by omega)
  have hF3 : Fr [1, 2, 3, 4, 5, 6, 7, 8, 9, 10, 11, 12, 13, 14, 15, 16, 17] dt (u2 dt 1 0 (dt 18 0)) := Fr_u2 hF (by decide)
  have w4 : (u2 dt 1 0 (dt 18 0)) 1 0 = dt 18 0 := rfl
  have w5 : (u2 dt 1 0 (dt 18 0)) 7 3 = dt 7 3 := rfl
  have w6 : (u2 dt 1 0 (dt 18 0)) 10 3 = dt 10 3 := rfl
  have w7 : (u2 dt 1 0 (dt 18 0)) 12 3 = dt 12 3 := rfl
  have w8 : (u2 dt 1 0 (dt 18 0)) 14 3 = dt 14 3 := rfl
  have w9 : (u2 dt 1 0 (dt 18 0)) 16 3 = dt 16 3 := rfl
  have w10 : (u2 dt 1 0 (dt 18 0)) 18 0 = dt 18 0 := rfl
  have w11 : (u2 dt 1 0 (dt 18 0)) 24 3 = dt 24 3 := rfl
  have w12 : (u2 dt 1 0 (dt 18 0)) 27 3 = dt 27 3 := rfl
  have w13 : (u2 dt 1 0 (dt 18 0)) 29 3 = dt 29 3 := rfl
  have w14 : (u2 dt 1 0 (dt 18 0)) 31 3 = dt 31 3 := rfl
  have w15 : (u2 dt 1 0 (dt 18 0)) 33 3 = dt 33 3 := rfl
  refine go_smp (L' := [some (.inr (.inr (some 1))), some (.inr (.inr (some 18)))]) (st' := []) (w' := (SH, (u2 dt 1 0 (dt 18 0)))) rfl rfl (s_pf rfl rfl rfl rfl ⟨by omega, by omega⟩) ?_
  refine go_to (k := 9) (pc' := 23) (L' := [some (.inr (.inr (some 1))), some (.inr (.inr (some 18)))]) (st' := [.inl 192, .inl 0, .inr (.inr (some 2)), .inl 0, .inr (.inr (some 19))]) (w' := (SH, (u2 dt 1 0 (dt 18 0)))) (fun _ => rfl) ?_
  have hI16 : InvC (am_cp (u2 dt 1 0 (dt 18 0)) 19 2 0 0 192) := InvC_cp hI2 (fun _ _ => rfl) (fun _ _ => rfl) (fun _ => rfl)
  have hF17 : Fr [1, 2, 3, 4, 5, 6, 7, 8, 9, 10, 11, 12, 13, 14, 15, 16, 17] dt (am_cp (u2 dt 1 0 (dt 18 0)) 19 2 0 0 192) := Fr_cp hF3 (by decide)
  have w18 : (am_cp (u2 dt 1 0 (dt 18 0)) 19 2 0 0 192) 1 0 = (u2 dt 1 0 (dt 18 0)) 1 0 := rfl
  have w19 : (am_cp (u2 dt 1 0 (dt 18 0)) 19 2 0 0 192) 7 3 = (u2 dt 1 0 (dt 18 0)) 7 3 := rfl
  have w20 : (am_cp (u2 dt 1 0 (dt 18 0)) 19 2 0 0 192) 10 3 = (u2 dt 1 0 (dt 18 0)) 10 3 := rfl
  have w21 : (am_cp (u2 dt 1 0 (dt 18 0)) 19 2 0 0 192) 12 3 = (u2 dt 1 0 (dt 18 0)) 12 3 := rfl
  have w22 : (am_cp (u2 dt 1 0 (dt 18 0)) 19 2 0 0 192) 14 3 = (u2 dt 1 0 (dt 18 0)) 14 3 := rfl
  have w23 : (am_cp (u2 dt 1 0 (dt 18 0)) 19 2 0 0 192) 16 3 = (u2 dt 1 0 (dt 18 0)) 16 3 := rfl
  have w24 : (am_cp (u2 dt 1 0 (dt 18 0)) 19 2 0 0 192) 18 0 = (u2 dt 1 0 (dt 18 0)) 18 0 := rfl
  have w25 : (am_cp (u2 dt 1 0 (dt 18 0)) 19 2 0 0 192) 24 3 = (u2 dt 1 0 (dt 18 0)) 24 3 := rfl
  have w26 : (am_cp (u2 dt 1 0 (dt 18 0)) 19 2 0 0 192) 27 3 = (u2 dt 1 0 (dt 18 0)) 27 3 := rfl
  have w27 : (am_cp (u2 dt 1 0 (dt 18 0)) 19 2 0 0 192) 29 3 = (u2 dt 1 0 (dt 18 0)) 29 3 := rfl
  have w28 : (am_cp (u2 dt 1 0 (dt 18 0)) 19 2 0 0 192) 31 3 = (u2 dt 1 0 (dt 18 0)) 31 3 := rfl
  have w29 : (am_cp (u2 dt 1 0 (dt 18 0)) 19 2 0 0 192) 33 3 = (u2 dt 1 0 (dt 18 0)) 33 3 := rfl
  have T30 : ∀ j : Nat, j < 192 → (am_cp (u2 dt 1 0 (dt 18 0)) 19 2 0 0 192) 2 j = dt 19 j := fun j hj => (cp_atv hj).trans (hF3 19 (by decide) j)
  refine go_cpy (L' := [some (.inr (.inr (some 1))), some (.inr (.inr (some 18)))]) (st' := []) (w' := (SH, (am_cp (u2 dt 1 0 (dt 18 0)) 19 2 0 0 192))) rfl rfl (s_cpy (n0 := 192) (n1 := 192) rfl rfl ⟨⟨by omega, by omega, by omega⟩, by omega, by omega, by decide⟩) ?_
  refine go_to (k := 9) (pc' := 41) (L' := [some (.inr (.inr (some 1))), some (.inr (.inr (some 18)))]) (st' := [.inl 8, .inl 0, .inr (.inr (some 3)), .inl 0, .inr (.inr (some 20))]) (w' := (SH, (am_cp (u2 dt 1 0 (dt 18 0)) 19 2 0 0 192))) (fun _ => rfl) ?_
  have hI31 : InvC (am_cp (am_cp (u2 dt 1 0 (dt 18 0)) 19 2 0 0 192) 20 3 0 0 8) := InvC_cp hI16 (fun _ _ => rfl) (fun _ _ => rfl) (fun _ => rfl)
  have hF32 : Fr [1, 2, 3, 4, 5, 6, 7, 8, 9, 10, 11, 12, 13, 14, 15, 16, 17] dt (am_cp (am_cp (u2 dt 1 0 (dt 18 0)) 19 2 0 0 192) 20 3 0 0 8) := Fr_cp hF17 (by decide)
  have w33 : (am_cp (am_cp (u2 dt 1 0 (dt 18 0)) 19 2 0 0 192) 20 3 0 0 8) 1 0 = (am_cp (u2 dt 1 0 (dt 18 0)) 19 2 0 0 192) 1 0 := rfl
  have w34 : (am_cp (am_cp (u2 dt 1 0 (dt 18 0)) 19 2 0 0 192) 20 3 0 0 8) 7 3 = (am_cp (u2 dt 1 0 (dt 18 0)) 19 2 0 0 192) 7 3 := rfl
  have w35 : (am_cp (am_cp (u2 dt 1 0 (dt 18 0)) 19 2 0 0 192) 20 3 0 0 8) 10 3 = (am_cp (u2 dt 1 0 (dt 18 0)) 19 2 0 0 192) 10 3 := rfl
  have w36 : (am_cp (am_cp (u2 dt 1 0 (dt 18 0)) 19 2 0 0 192) 20 3 0 0 8) 12 3 = (am_cp (u2 dt 1 0 (dt 18 0)) 19 2 0 0 192) 12 3 := rfl
  have w37 : (am_cp (am_cp (u2 dt 1 0 (dt 18 0)) 19 2 0 0 192) 20 3 0 0 8) 14 3 = (am_cp (u2 dt 1 0 (dt 18 0)) 19 2 0 0 192) 14 3 := rfl
  have w38 : (am_cp (am_cp (u2 dt 1 0 (dt 18 0)) 19 2 0 0 192) 20 3 0 0 8) 16 3 = (am_cp (u2 dt 1 0 (dt 18 0)) 19 2 0 0 192) 16 3 := rfl
  have w39 : (am_cp (am_cp (u2 dt 1 0 (dt 18 0)) 19 2 0 0 192) 20 3 0 0 8) 18 0 = (am_cp (u2 dt 1 0 (dt 18 0)) 19 2 0 0 192) 18 0 := rfl
  have w40 : (am_cp (am_cp (u2 dt 1 0 (dt 18 0)) 19 2 0 0 192) 20 3 0 0 8) 24 3 = (am_cp (u2 dt 1 0 (dt 18 0)) 19 2 0 0 192) 24 3 := rfl
  have w41 : (am_cp (am_cp (u2 dt 1 0 (dt 18 0)) 19 2 0 0 192) 20 3 0 0 8) 27 3 = (am_cp (u2 dt 1 0 (dt 18 0)) 19 2 0 0 192) 27 3 := rfl
  have w42 : (am_cp (am_cp (u2 dt 1 0 (dt 18 0)) 19 2 0 0 192) 20 3 0 0 8) 29 3 = (am_cp (u2 dt 1 0 (dt 18 0)) 19 2 0 0 192) 29 3 := rfl
  have w43 : (am_cp (am_cp (u2 dt 1 0 (dt 18 0)) 19 2 0 0 192) 20 3 0 0 8) 31 3 = (am_cp (u2 dt 1 0 (dt 18 0)) 19 2 0 0 192) 31 3 := rfl
  have w44 : (am_cp (am_cp (u2 dt 1 0 (dt 18 0)) 19 2 0 0 192) 20 3 0 0 8) 33 3 = (am_cp (u2 dt 1 0 (dt 18 0)) 19 2 0 0 192) 33 3 := rfl
  have T45 : ∀ j : Nat, j < 192 → (am_cp (am_cp (u2 dt 1 0 (dt 18 0)) 19 2 0 0 192) 20 3 0 0 8) 2 j = dt 19 j := fun j hj => (cp_ne (by decide)).trans (T30 j hj)
  have T46 : ∀ j : Nat, j < 8 → (am_cp (am_cp (u2 dt 1 0 (dt 18 0)) 19 2 0 0 192) 20 3 0 0 8) 3 j = dt 20 j := fun j hj => (cp_atv hj).trans (hF17 20 (by decide) j)
  refine go_cpy (L' := [some (.inr (.inr (some 1))), some (.inr (.inr (some 18)))]) (st' := []) (w' := (SH, (am_cp (am_cp (u2 dt 1 0 (dt 18 0)) 19 2 0 0 192) 20 3 0 0 8))) rfl rfl (s_cpy (n0 := 8) (n1 := 8) rfl rfl ⟨⟨by omega, by omega, by omega⟩, by omega, by omega, by decide⟩) ?_
  refine go_to (k := 9) (pc' := 59) (L' := [some (.inr (.inr (some 1))), some (.inr (.inr (some 18)))]) (st' := [.inl 256, .inl 0, .inr (.inr (some 4)), .inl 0, .inr (.inr (some 21))]) (w' := (SH, (am_cp (am_cp (u2 dt 1 0 (dt 18 0)) 19 2 0 0 192) 20 3 0 0 8))) (fun _ => rfl) ?_
  have hI47 : InvC (am_cp (am_cp (am_cp (u2 dt 1 0 (dt 18 0)) 19 2 0 0 192) 20 3 0 0 8) 21 4 0 0 256) := InvC_cp hI31 (fun _ _ => rfl) (fun _ _ => rfl) (fun _ => rfl)
  have hF48 : Fr [1, 2, 3, 4, 5, 6, 7, 8, 9, 10, 11, 12, 13, 14, 15, 16, 17] dt (am_cp (am_cp (am_cp (u2 dt 1 0 (dt 18 0)) 19 2 0 0 192) 20 3 0 0 8) 21 4 0 0 256) := Fr_cp hF32 (by decide)
  have w49 : (am_cp (am_cp (am_cp (u2 dt 1 0 (dt 18 0)) 19 2 0 0 192) 20 3 0 0 8) 21 4 0 0 256) 1 0 = (am_cp (am_cp (u2 dt 1 0 (dt 18 0)) 19 2 0 0 192) 20 3 0 0 8) 1 0 := rfl
  have w50 : (am_cp (am_cp (am_cp (u2 dt 1 0 (dt 18 0)) 19 2 0 0 192) 20 3 0 0 8) 21 4 0 0 256) 7 3 = (am_cp (am_cp (u2 dt 1 0 (dt 18 0)) 19 2 0 0 192) 20 3 0 0 8) 7 3 := rfl
  have w51 : (am_cp (am_cp (am_cp (u2 dt 1 0 (dt 18 0)) 19 2 0 0 192) 20 3 0 0 8) 21 4 0 0 256) 10 3 = (am_cp (am_cp (u2 dt 1 0 (dt 18 0)) 19 2 0 0 192) 20 3 0 0 8) 10 3 := rfl
  have w52 : (am_cp (am_cp (am_cp (u2 dt 1 0 (dt 18 0)) 19 2 0 0 192) 20 3 0 0 8) 21 4 0 0 256) 12 3 = (am_cp (am_cp (u2 dt 1 0 (dt 18 0)) 19 2 0 0 192) 20 3 0 0 8) 12 3 := rfl
  have w53 : (am_cp (am_cp (am_cp (u2 dt 1 0 (dt 18 0)) 19 2 0 0 192) 20 3 0 0 8) 21 4 0 0 256) 14 3 = (am_cp (am_cp (u2 dt 1 0 (dt 18 0)) 19 2 0 0 192) 20 3 0 0 8) 14 3 := rfl
  have w54 : (am_cp (am_cp (am_cp (u2 dt 1 0 (dt 18 0)) 19 2 0 0 192) 20 3 0 0 8) 21 4 0 0 256) 16 3 = (am_cp (am_cp (u2 dt 1 0 (dt 18 0)) 19 2 0 0 192) 20 3 0 0 8) 16 3 := rfl
  have w55 : (am_cp (am_cp (am_cp (u2 dt 1 0 (dt 18 0)) 19 2 0 0 192) 20 3 0 0 8) 21 4 0 0 256) 18 0 = (am_cp (am_cp (u2 dt 1 0 (dt 18 0)) 19 2 0 0 192) 20 3 0 0 8) 18 0 := rfl
  have w56 : (am_cp (am_cp (am_cp (u2 dt 1 0 (dt 18 0)) 19 2 0 0 192) 20 3 0 0 8) 21 4 0 0 256) 24 3 = (am_cp (am_cp (u2 dt 1 0 (dt 18 0)) 19 2 0 0 192) 20 3 0 0 8) 24 3 := rfl
  have w57 : (am_cp (am_cp (am_cp (u2 dt 1 0 (dt 18 0)) 19 2 0 0 192) 20 3 0 0 8) 21 4 0 0 256) 27 3 = (am_cp (am_cp (u2 dt 1 0 (dt 18 0)) 19 2 0 0 192) 20 3 0 0 8) 27 3 := rfl
  have w58 : (am_cp (am_cp (am_cp (u2 dt 1 0 (dt 18 0)) 19 2 0 0 192) 20 3 0 0 8) 21 4 0 0 256) 29 3 = (am_cp (am_cp (u2 dt 1 0 (dt 18 0)) 19 2 0 0 192) 20 3 0 0 8) 29 3 := rfl
  have w59 : (am_cp (am_cp (am_cp (u2 dt 1 0 (dt 18 0)) 19 2 0 0 192) 20 3 0 0 8) 21 4 0 0 256) 31 3 = (am_cp (am_cp (u2 dt 1 0 (dt 18 0)) 19 2 0 0 192) 20 3 0 0 8) 31 3 := rfl
  have w60 : (am_cp (am_cp (am_cp (u2 dt 1 0 (dt 18 0)) 19 2 0 0 192) 20 3 0 0 8) 21 4 0 0 256) 33 3 = (am_cp (am_cp (u2 dt 1 0 (dt 18 0)) 19 2 0 0 192) 20 3 0 0 8) 33 3 := rfl
  have T61 : ∀ j : Nat, j < 192 → (am_cp (am_cp (am_cp (u2 dt 1 0 (dt 18 0)) 19 2 0 0 192) 20 3 0 0 8) 21 4 0 0 256) 2 j = dt 19 j := fun j hj => (cp_ne (by decide)).trans (T45 j hj)
  have T62 : ∀ j : Nat, j < 8 → (am_cp (am_cp (am_cp (u2 dt 1 0 (dt 18 0)) 19 2 0 0 192) 20 3 0 0 8) 21 4 0 0 256) 3 j = dt 20 j := fun j hj => (cp_ne (by decide)).trans (T46 j hj)
  have T63 : ∀ j : Nat, j < 256 → (am_cp (am_cp (am_cp (u2 dt 1 0 (dt 18 0)) 19 2 0 0 192) 20 3 0 0 8) 21 4 0 0 256) 4 j = dt 21 j := fun j hj => (cp_atv hj).trans (hF32 21 (by decide) j)
  refine go_cpy (L' := [some (.inr (.inr (some 1))), some (.inr (.inr (some 18)))]) (st' := []) (w' := (SH, (am_cp (am_cp (am_cp (u2 dt 1 0 (dt 18 0)) 19 2 0 0 192) 20 3 0 0 8) 21 4 0 0 256))) rfl rfl (s_cpy (n0 := 256) (n1 := 256) rfl rfl ⟨⟨by omega, by omega, by omega⟩, by omega, by omega, by decide⟩) ?_
  refine go_to (k := 9) (pc' := 77) (L' := [some (.inr (.inr (some 1))), some (.inr (.inr (some 18)))]) (st' := [.inl 4, .inl 0, .inr (.inr (some 5)), .inl 0, .inr (.inr (some 22))]) (w' := (SH, (am_cp (am_cp (am_cp (u2 dt 1 0 (dt 18 0)) 19 2 0 0 192) 20 3 0 0 8) 21 4 0 0 256))) (fun _ => rfl) ?_
  have hI64 : InvC (am_cp (am_cp (am_cp (am_cp (u2 dt 1 0 (dt 18 0)) 19 2 0 0 192) 20 3 0 0 8) 21 4 0 0 256) 22 5 0 0 4) := InvC_cp hI47 (fun _ _ => rfl) (fun _ _ => rfl) (fun _ => rfl)
  have hF65 : Fr [1, 2, 3, 4, 5, 6, 7, 8, 9, 10, 11, 12, 13, 14, 15, 16, 17] dt (am_cp (am_cp (am_cp (am_cp (u2 dt 1 0 (dt 18 0)) 19 2 0 0 192) 20 3 0 0 8) 21 4 0 0 256) 22 5 0 0 4) := Fr_cp hF48 (by decide)
  have w66 : (am_cp (am_cp (am_cp (am_cp (u2 dt 1 0 (dt 18 0)) 19 2 0 0 192) 20 3 0 0 8) 21 4 0 0 256) 22 5 0 0 4) 1 0 = (am_cp (am_cp (am_cp (u2 dt 1 0 (dt 18 0)) 19 2 0 0 192) 20 3 0 0 8) 21 4 0 0 256) 1 0 := rfl
  have w67 : (am_cp (am_cp (am_cp (am_cp (u2 dt 1 0 (dt 18 0)) 19 2 0 0 192) 20 3 0 0 8) 21 4 0 0 256) 22 5 0 0 4) 7 3 = (am_cp (am_cp (am_cp (u2 dt 1 0 (dt 18 0)) 19 2 0 0 192) 20 3 0 0 8) 21 4 0 0 256) 7 3 := rfl
  have w68 : (am_cp (am_cp (am_cp (am_cp (u2 dt 1 0 (dt 18 0)) 19 2 0 0 192) 20 3 0 0 8) 21 4 0 0 256) 22 5 0 0 4) 10 3 = (am_cp (am_cp (am_cp (u2 dt 1 0 (dt 18 0)) 19 2 0 0 192) 20 3 0 0 8) 21 4 0 0 256) 10 3 := rfl
  have w69 : (am_cp (am_cp (am_cp (am_cp (u2 dt 1 0 (dt 18 0)) 19 2 0 0 192) 20 3 0 0 8) 21 4 0 0 256) 22 5 0 0 4) 12 3 = (am_cp (am_cp (am_cp (u2 dt 1 0 (dt 18 0)) 19 2 0 0 192) 20 3 0 0 8) 21 4 0 0 256) 12 3 := rfl
  have w70 : (am_cp (am_cp (am_cp (am_cp (u2 dt 1 0 (dt 18 0)) 19 2 0 0 192) 20 3 0 0 8) 21 4 0 0 256) 22 5 0 0 4) 14 3 = (am_cp (am_cp (am_cp (u2 dt 1 0 (dt 18 0)) 19 2 0 0 192) 20 3 0 0 8) 21 4 0 0 256) 14 3 := rfl
  have w71 : (am_cp (am_cp (am_cp (am_cp (u2 dt 1 0 (dt 18 0)) 19 2 0 0 192) 20 3 0 0 8) 21 4 0 0 256) 22 5 0 0 4) 16 3 = (am_cp (am_cp (am_cp (u2 dt 1 0 (dt 18 0)) 19 2 0 0 192) 20 3 0 0 8) 21 4 0 0 256) 16 3 := rfl
  have w72 : (am_cp (am_cp (am_cp (am_cp (u2 dt 1 0 (dt 18 0)) 19 2 0 0 192) 20 3 0 0 8) 21 4 0 0 256) 22 5 0 0 4) 18 0 = (am_cp (am_cp (am_cp (u2 dt 1 0 (dt 18 0)) 19 2 0 0 192) 20 3 0 0 8) 21 4 0 0 256) 18 0 := rfl
  have w73 : (am_cp (am_cp (am_cp (am_cp (u2 dt 1 0 (dt 18 0)) 19 2 0 0 192) 20 3 0 0 8) 21 4 0 0 256) 22 5 0 0 4) 24 3 = (am_cp (am_cp (am_cp (u2 dt 1 0 (dt 18 0)) 19 2 0 0 192) 20 3 0 0 8) 21 4 0 0 256) 24 3 := rfl
  have w74 : (am_cp (am_cp (am_cp (am_cp (u2 dt 1 0 (dt 18 0)) 19 2 0 0 192) 20 3 0 0 8) 21 4 0 0 256) 22 5 0 0 4) 27 3 = (am_cp (am_cp (am_cp (u2 dt 1 0 (dt 18 0)) 19 2 0 0 192) 20 3 0 0 8) 21 4 0 0 256) 27 3 := rfl
  have w75 : (am_cp (am_cp (am_cp (am_cp (u2 dt 1 0 (dt 18 0)) 19 2 0 0 192) 20 3 0 0 8) 21 4 0 0 256) 22 5 0 0 4) 29 3 = (am_cp (am_cp (am_cp (u2 dt 1 0 (dt 18 0)) 19 2 0 0 192) 20 3 0 0 8) 21 4 0 0 256) 29 3 := rfl
  have w76 : (am_cp (am_cp (am_cp (am_cp (u2 dt 1 0 (dt 18 0)) 19 2 0 0 192) 20 3 0 0 8) 21 4 0 0 256) 22 5 0 0 4) 31 3 = (am_cp (am_cp (am_cp (u2 dt 1 0 (dt 18 0)) 19 2 0 0 192) 20 3 0 0 8) 21 4 0 0 256) 31 3 := rfl
  have w77 : (am_cp (am_cp (am_cp (am_cp (u2 dt 1 0 (dt 18 0)) 19 2 0 0 192) 20 3 0 0 8) 21 4 0 0 256) 22 5 0 0 4) 33 3 = (am_cp (am_cp (am_cp (u2 dt 1 0 (dt 18 0)) 19 2 0 0 192) 20 3 0 0 8) 21 4 0 0 256) 33 3 := rfl
  have T78 : ∀ j : Nat, j < 192 → (am_cp (am_cp (am_cp (am_cp (u2 dt 1 0 (dt 18 0)) 19 2 0 0 192) 20 3 0 0 8) 21 4 0 0 256) 22 5 0 0 4) 2 j = dt 19 j := fun j hj => (cp_ne (by decide)).trans (T61 j hj)
  have T79 : ∀ j : Nat, j < 8 → (am_cp (am_cp (am_cp (am_cp (u2 dt 1 0 (dt 18 0)) 19 2 0 0 192) 20 3 0 0 8) 21 4 0 0 256) 22 5 0 0 4) 3 j = dt 20 j := fun j hj => (cp_ne (by decide)).trans (T62 j hj)
  have T80 : ∀ j : Nat, j < 256 → (am_cp (am_cp (am_cp (am_cp (u2 dt 1 0 (dt 18 0)) 19 2 0 0 192) 20 3 0 0 8) 21 4 0 0 256) 22 5 0 0 4) 4 j = dt 21 j := fun j hj => (cp_ne (by decide)).trans (T63 j hj)
  have T81 : ∀ j : Nat, j < 4 → (am_cp (am_cp (am_cp (am_cp (u2 dt 1 0 (dt 18 0)) 19 2 0 0 192) 20 3 0 0 8) 21 4 0 0 256) 22 5 0 0 4) 5 j = dt 22 j := fun j hj => (cp_atv hj).trans (hF48 22 (by decide) j)
  refine go_cpy (L' := [some (.inr (.inr (some 1))), some (.inr (.inr (some 18)))]) (st' := []) (w' := (SH, (am_cp (am_cp (am_cp (am_cp (u2 dt 1 0 (dt 18 0)) 19 2 0 0 192) 20 3 0 0 8) 21 4 0 0 256) 22 5 0 0 4))) rfl rfl (s_cpy (n0 := 4) (n1 := 4) rfl rfl ⟨⟨by omega, by omega, by omega⟩, by omega, by omega, by decide⟩) ?_
  refine go_to (k := 9) (pc' := 95) (L' := [some (.inr (.inr (some 1))), some (.inr (.inr (some 18)))]) (st' := [.inl 2000, .inl 0, .inr (.inr (some 6)), .inl 0, .inr (.inr (some 23))]) (w' := (SH, (am_cp (am_cp (am_cp (am_cp (u2 dt 1 0 (dt 18 0)) 19 2 0 0 192) 20 3 0 0 8) 21 4 0 0 256) 22 5 0 0 4))) (fun _ => rfl) ?_
  have hI82 : InvC (am_cp (am_cp (am_cp (am_cp (am_cp (u2 dt 1 0 (dt 18 0)) 19 2 0 0 192) 20 3 0 0 8) 21 4 0 0 256) 22 5 0 0 4) 23 6 0 0 2000) := InvC_cp hI64 (fun _ _ => rfl) (fun _ _ => rfl) (fun _ => rfl)
  have hF83 : Fr [1, 2, 3, 4, 5, 6, 7, 8, 9, 10, 11, 12, 13, 14, 15, 16, 17] dt (am_cp (am_cp (am_cp (am_cp (am_cp (u2 dt 1 0 (dt 18 0)) 19 2 0 0 192) 20 3 0 0 8) 21 4 0 0 256) 22 5 0 0 4) 23 6 0 0 2000) := Fr_cp hF65 (by decide)
  have w84 : (am_cp (am_cp (am_cp (am_cp (am_cp (u2 dt 1 0 (dt 18 0)) 19 2 0 0 192) 20 3 0 0 8) 21 4 0 0 256) 22 5 0 0 4) 23 6 0 0 2000) 1 0 = (am_cp (am_cp (am_cp (am_cp (u2 dt 1 0 (dt 18 0)) 19 2 0 0 192) 20 3 0 0 8) 21 4 0 0 256) 22 5 0 0 4) 1 0 := rfl
  have w85 : (am_cp (am_cp (am_cp (am_cp (am_cp (u2 dt 1 0 (dt 18 0)) 19 2 0 0 192) 20 3 0 0 8) 21 4 0 0 256) 22 5 0 0 4) 23 6 0 0 2000) 7 3 = (am_cp (am_cp (am_cp (am_cp (u2 dt 1 0 (dt 18 0)) 19 2 0 0 192) 20 3 0 0 8) 21 4 0 0 256) 22 5 0 0 4) 7 3 := rfl
  have w86 : (am_cp (am_cp (am_cp (am_cp (am_cp (u2 dt 1 0 (dt 18 0)) 19 2 0 0 192) 20 3 0 0 8) 21 4 0 0 256) 22 5 0 0 4) 23 6 0 0 2000) 10 3 = (am_cp (am_cp (am_cp (am_cp (u2 dt 1 0 (dt 18 0)) 19 2 0 0 192) 20 3 0 0 8) 21 4 0 0 256) 22 5 0 0 4) 10 3 := rfl
  have w87 : (am_cp (am_cp (am_cp (am_cp (am_cp (u2 dt 1 0 (dt 18 0)) 19 2 0 0 192) 20 3 0 0 8) 21 4 0 0 256) 22 5 0 0 4) 23 6 0 0 2000) 12 3 = (am_cp (am_cp (am_cp (am_cp (u2 dt 1 0 (dt 18 0)) 19 2 0 0 192) 20 3 0 0 8) 21 4 0 0 256) 22 5 0 0 4) 12 3 := rfl
  have w88 : (am_cp (am_cp (am_cp (am_cp (am_cp (u2 dt 1 0 (dt 18 0)) 19 2 0 0 192) 20 3 0 0 8) 21 4 0 0 256) 22 5 0 0 4) 23 6 0 0 2000) 14 3 = (am_cp (am_cp (am_cp (am_cp (u2 dt 1 0 (dt 18 0)) 19 2 0 0 192) 20 3 0 0 8) 21 4 0 0 256) 22 5 0 0 4) 14 3 := rfl
  have w89 : (am_cp (am_cp (am_cp (am_cp (am_cp (u2 dt 1 0 (dt 18 0)) 19 2 0 0 192) 20 3 0 0 8) 21 4 0 0 256) 22 5 0 0 4) 23 6 0 0 2000) 16 3 = (am_cp (am_cp (am_cp (am_cp (u2 dt 1 0 (dt 18 0)) 19 2 0 0 192) 20 3 0 0 8) 21 4 0 0 256) 22 5 0 0 4) 16 3 := rfl
  have w90 : (am_cp (am_cp (am_cp (am_cp (am_cp (u2 dt 1 0 (dt 18 0)) 19 2 0 0 192) 20 3 0 0 8) 21 4 0 0 256) 22 5 0 0 4) 23 6 0 0 2000) 18 0 = (am_cp (am_cp (am_cp (am_cp (u2 dt 1 0 (dt 18 0)) 19 2 0 0 192) 20 3 0 0 8) 21 4 0 0 256) 22 5 0 0 4) 18 0 := rfl
  have w91 : (am_cp (am_cp (am_cp (am_cp (am_cp (u2 dt 1 0 (dt 18 0)) 19 2 0 0 192) 20 3 0 0 8) 21 4 0 0 256) 22 5 0 0 4) 23 6 0 0 2000) 24 3 = (am_cp (am_cp (am_cp (am_cp (u2 dt 1 0 (dt 18 0)) 19 2 0 0 192) 20 3 0 0 8) 21 4 0 0 256) 22 5 0 0 4) 24 3 := rfl
  have w92 : (am_cp (am_cp (am_cp (am_cp (am_cp (u2 dt 1 0 (dt 18 0)) 19 2 0 0 192) 20 3 0 0 8) 21 4 0 0 256) 22 5 0 0 4) 23 6 0 0 2000) 27 3 = (am_cp (am_cp (am_cp (am_cp (u2 dt 1 0 (dt 18 0)) 19 2 0 0 192) 20 3 0 0 8) 21 4 0 0 256) 22 5 0 0 4) 27 3 := rfl
  have w93 : (am_cp (am_cp (am_cp (am_cp (am_cp (u2 dt 1 0 (dt 18 0)) 19 2 0 0 192) 20 3 0 0 8) 21 4 0 0 256) 22 5 0 0 4) 23 6 0 0 2000) 29 3 = (am_cp (am_cp (am_cp (am_cp (u2 dt 1 0 (dt 18 0)) 19 2 0 0 192) 20 3 0 0 8) 21 4 0 0 256) 22 5 0 0 4) 29 3 := rfl
  have w94 : (am_cp (am_cp (am_cp (am_cp (am_cp (u2 dt 1 0 (dt 18 0)) 19 2 0 0 192) 20 3 0 0 8) 21 4 0 0 256) 22 5 0 0 4) 23 6 0 0 2000) 31 3 = (am_cp (am_cp (am_cp (am_cp (u2 dt 1 0 (dt 18 0)) 19 2 0 0 192) 20 3 0 0 8) 21 4 0 0 256) 22 5 0 0 4) 31 3 := rfl
  have w95 : (am_cp (am_cp (am_cp (am_cp (am_cp (u2 dt 1 0 (dt 18 0)) 19 2 0 0 192) 20 3 0 0 8) 21 4 0 0 256) 22 5 0 0 4) 23 6 0 0 2000) 33 3 = (am_cp (am_cp (am_cp (am_cp (u2 dt 1 0 (dt 18 0)) 19 2 0 0 192) 20 3 0 0 8) 21 4 0 0 256) 22 5 0 0 4) 33 3 := rfl
  have T96 : ∀ j : Nat, j < 192 → (am_cp (am_cp (am_cp (am_cp (am_cp (u2 dt 1 0 (dt 18 0)) 19 2 0 0 192) 20 3 0 0 8) 21 4 0 0 256) 22 5 0 0 4) 23 6 0 0 2000) 2 j = dt 19 j := fun j hj => (cp_ne (by decide)).trans (T78 j hj)
  have T97 : ∀ j : Nat, j < 8 → (am_cp (am_cp (am_cp (am_cp (am_cp (u2 dt 1 0 (dt 18 0)) 19 2 0 0 192) 20 3 0 0 8) 21 4 0 0 256) 22 5 0 0 4) 23 6 0 0 2000) 3 j = dt 20 j := fun j hj => (cp_ne (by decide)).trans (T79 j hj)
  have T98 : ∀ j : Nat, j < 256 → (am_cp (am_cp (am_cp (am_cp (am_cp (u2 dt 1 0 (dt 18 0)) 19 2 0 0 192) 20 3 0 0 8) 21 4 0 0 256) 22 5 0 0 4) 23 6 0 0 2000) 4 j = dt 21 j := fun j hj => (cp_ne (by decide)).trans (T80 j hj)
  have T99 : ∀ j : Nat, j < 4 → (am_cp (am_cp (am_cp (am_cp (am_cp (u2 dt 1 0 (dt 18 0)) 19 2 0 0 192) 20 3 0 0 8) 21 4 0 0 256) 22 5 0 0 4) 23 6 0 0 2000) 5 j = dt 22 j := fun j hj => (cp_ne (by decide)).trans (T81 j hj)
  have T100 : ∀ j : Nat, j < 2000 → (am_cp (am_cp (am_cp (am_cp (am_cp (u2 dt 1 0 (dt 18 0)) 19 2 0 0 192) 20 3 0 0 8) 21 4 0 0 256) 22 5 0 0 4) 23 6 0 0 2000) 6 j = dt 23 j := fun j hj => (cp_atv hj).trans (hF65 23 (by decide) j)
  refine go_cpy (L' := [some (.inr (.inr (some 1))), some (.inr (.inr (some 18)))]) (st' := []) (w' := (SH, (am_cp (am_cp (am_cp (am_cp (am_cp (u2 dt 1 0 (dt 18 0)) 19 2 0 0 192) 20 3 0 0 8) 21 4 0 0 256) 22 5 0 0 4) 23 6 0 0 2000))) rfl rfl (s_cpy (n0 := 2000) (n1 := 2000) rfl rfl ⟨⟨by omega, by omega, by omega⟩, by omega, by omega, by decide⟩) ?_
  refine go_to (k := 9) (pc' := 113) (L' := [some (.inr (.inr (some 1))), some (.inr (.inr (some 18)))]) (st' := [.inl 132, .inl 0, .inr (.inr (some 9)), .inl 0, .inr (.inr (some 26))]) (w' := (SH, (am_cp (am_cp (am_cp (am_cp (am_cp (u2 dt 1 0 (dt 18 0)) 19 2 0 0 192) 20 3 0 0 8) 21 4 0 0 256) 22 5 0 0 4) 23 6 0 0 2000))) (fun _ => rfl) ?_
  have hI101 : InvC (am_cp (am_cp (am_cp (am_cp (am_cp (am_cp (u2 dt 1 0 (dt 18 0)) 19 2 0 0 192) 20 3 0 0 8) 21 4 0 0 256) 22 5 0 0 4) 23 6 0 0 2000) 26 9 0 0 132) := InvC_cp hI82 (fun _ _ => rfl) (fun _ _ => rfl) (fun _ => rfl)
  have hF102 : Fr [1, 2, 3, 4, 5, 6, 7, 8, 9, 10, 11, 12, 13, 14, 15, 16, 17] dt (am_cp (am_cp (am_cp (am_cp (am_cp (am_cp (u2 dt 1 0 (dt 18 0)) 19 2 0 0 192) 20 3 0 0 8) 21 4 0 0 256) 22 5 0 0 4) 23 6 0 0 2000) 26 9 0 0 132) := Fr_cp hF83 (by decide)
  have w103 : (am_cp (am_cp (am_cp (am_cp (am_cp (am_cp (u2 dt 1 0 (dt 18 0)) 19 2 0 0 192) 20 3 0 0 8) 21 4 0 0 256) 22 5 0 0 4) 23 6 0 0 2000) 26 9 0 0 132) 1 0 = (am_cp (am_cp (am_cp (am_cp (am_cp (u2 dt 1 0 (dt 18 0)) 19 2 0 0 192) 20 3 0 0 8) 21 4 0 0 256) 22 5 0 0 4) 23 6 0 0 2000) 1 0 := rfl
  have w104 : (am_cp (am_cp (am_cp (am_cp (am_cp (am_cp (u2 dt 1 0 (dt 18 0)) 19 2 0 0 192) 20 3 0 0 8) 21 4 0 0 256) 22 5 0 0 4) 23 6 0 0 2000) 26 9 0 0 132) 7 3 = (am_cp (am_cp (am_cp (am_cp (am_cp (u2 dt 1 0 (dt 18 0)) 19 2 0 0 192) 20 3 0 0 8) 21 4 0 0 256) 22 5 0 0 4) 23 6 0 0 2000) 7 3 := rfl
  have w105 : (am_cp (am_cp (am_cp (am_cp (am_cp (am_cp (u2 dt 1 0 (dt 18 0)) 19 2 0 0 192) 20 3 0 0 8) 21 4 0 0 256) 22 5 0 0 4) 23 6 0 0 2000) 26 9 0 0 132) 10 3 = (am_cp (am_cp (am_cp (am_cp (am_cp (u2 dt 1 0 (dt 18 0)) 19 2 0 0 192) 20 3 0 0 8) 21 4 0 0 256) 22 5 0 0 4) 23 6 0 0 2000) 10 3 := rfl
  have w106 : (am_cp (am_cp (am_cp (am_cp (am_cp (am_cp (u2 dt 1 0 (dt 18 0)) 19 2 0 0 192) 20 3 0 0 8) 21 4 0 0 256) 22 5 0 0 4) 23 6 0 0 2000) 26 9 0 0 132) 12 3 = (am_cp (am_cp (am_cp (am_cp (am_cp (u2 dt 1 0 (dt 18 0)) 19 2 0 0 192) 20 3 0 0 8) 21 4 0 0 256) 22 5 0 0 4) 23 6 0 0 2000) 12 3 := rfl
  have w107 : (am_cp (am_cp (am_cp (am_cp (am_cp (am_cp (u2 dt 1 0 (dt 18 0)) 19 2 0 0 192) 20 3 0 0 8) 21 4 0 0 256) 22 5 0 0 4) 23 6 0 0 2000) 26 9 0 0 132) 14 3 = (am_cp (am_cp (am_cp (am_cp (am_cp (u2 dt 1 0 (dt 18 0)) 19 2 0 0 192) 20 3 0 0 8) 21 4 0 0 256) 22 5 0 0 4) 23 6 0 0 2000) 14 3 := rfl
  have w108 : (am_cp (am_cp (am_cp (am_cp (am_cp (am_cp (u2 dt 1 0 (dt 18 0)) 19 2 0 0 192) 20 3 0 0 8) 21 4 0 0 256) 22 5 0 0 4) 23 6 0 0 2000) 26 9 0 0 132) 16 3 = (am_cp (am_cp (am_cp (am_cp (am_cp (u2 dt 1 0 (dt 18 0)) 19 2 0 0 192) 20 3 0 0 8) 21 4 0 0 256) 22 5 0 0 4) 23 6 0 0 2000) 16 3 := rfl
  have w109 : (am_cp (am_cp (am_cp (am_cp (am_cp (am_cp (u2 dt 1 0 (dt 18 0)) 19 2 0 0 192) 20 3 0 0 8) 21 4 0 0 256) 22 5 0 0 4) 23 6 0 0 2000) 26 9 0 0 132) 18 0 = (am_cp (am_cp (am_cp (am_cp (am_cp (u2 dt 1 0 (dt 18 0)) 19 2 0 0 192) 20 3 0 0 8) 21 4 0 0 256) 22 5 0 0 4) 23 6 0 0 2000) 18 0 := rfl
  have w110 : (am_cp (am_cp (am_cp (am_cp (am_cp (am_cp (u2 dt 1 0 (dt 18 0)) 19 2 0 0 192) 20 3 0 0 8) 21 4 0 0 256) 22 5 0 0 4) 23 6 0 0 2000) 26 9 0 0 132) 24 3 = (am_cp (am_cp (am_cp (am_cp (am_cp (u2 dt 1 0 (dt 18 0)) 19 2 0 0 192) 20 3 0 0 8) 21 4 0 0 256) 22 5 0 0 4) 23 6 0 0 2000) 24 3 := rfl
  have w111 : (am_cp (am_cp (am_cp (am_cp (am_cp (am_cp (u2 dt 1 0 (dt 18 0)) 19 2 0 0 192) 20 3 0 0 8) 21 4 0 0 256) 22 5 0 0 4) 23 6 0 0 2000) 26 9 0 0 132) 27 3 = (am_cp (am_cp (am_cp (am_cp (am_cp (u2 dt 1 0 (dt 18 0)) 19 2 0 0 192) 20 3 0 0 8) 21 4 0 0 256) 22 5 0 0 4) 23 6 0 0 2000) 27 3 := rfl
  have w112 : (am_cp (am_cp (am_cp (am_cp (am_cp (am_cp (u2 dt 1 0 (dt 18 0)) 19 2 0 0 192) 20 3 0 0 8) 21 4 0 0 256) 22 5 0 0 4) 23 6 0 0 2000) 26 9 0 0 132) 29 3 = (am_cp (am_cp (am_cp (am_cp (am_cp (u2 dt 1 0 (dt 18 0)) 19 2 0 0 192) 20 3 0 0 8) 21 4 0 0 256) 22 5 0 0 4) 23 6 0 0 2000) 29 3 := rfl
  have w113 : (am_cp (am_cp (am_cp (am_cp (am_cp (am_cp (u2 dt 1 0 (dt 18 0)) 19 2 0 0 192) 20 3 0 0 8) 21 4 0 0 256) 22 5 0 0 4) 23 6 0 0 2000) 26 9 0 0 132) 31 3 = (am_cp (am_cp (am_cp (am_cp (am_cp (u2 dt 1 0 (dt 18 0)) 19 2 0 0 192) 20 3 0 0 8) 21 4 0 0 256) 22 5 0 0 4) 23 6 0 0 2000) 31 3 := rfl
  have w114 : (am_cp (am_cp (am_cp (am_cp (am_cp (am_cp (u2 dt 1 0 (dt 18 0)) 19 2 0 0 192) 20 3 0 0 8) 21 4 0 0 256) 22 5 0 0 4) 23 6 0 0 2000) 26 9 0 0 132) 33 3 = (am_cp (am_cp (am_cp (am_cp (am_cp (u2 dt 1 0 (dt 18 0)) 19 2 0 0 192) 20 3 0 0 8) 21 4 0 0 256) 22 5 0 0 4) 23 6 0 0 2000) 33 3 := rfl
  have T115 : ∀ j : Nat, j < 192 → (am_cp (am_cp (am_cp (am_cp (am_cp (am_cp (u2 dt 1 0 (dt 18 0)) 19 2 0 0 192) 20 3 0 0 8) 21 4 0 0 256) 22 5 0 0 4) 23 6 0 0 2000) 26 9 0 0 132) 2 j = dt 19 j := fun j hj => (cp_ne (by decide)).trans (T96 j hj)
  have T116 : ∀ j : Nat, j < 8 → (am_cp (am_cp (am_cp (am_cp (am_cp (am_cp (u2 dt 1 0 (dt 18 0)) 19 2 0 0 192) 20 3 0 0 8) 21 4 0 0 256) 22 5 0 0 4) 23 6 0 0 2000) 26 9 0 0 132) 3 j = dt 20 j := fun j hj => (cp_ne (by decide)).trans (T97 j hj)
  have T117 : ∀ j : Nat, j < 256 → (am_cp (am_cp (am_cp (am_cp (am_cp (am_cp (u2 dt 1 0 (dt 18 0)) 19 2 0 0 192) 20 3 0 0 8) 21 4 0 0 256) 22 5 0 0 4) 23 6 0 0 2000) 26 9 0 0 132) 4 j = dt 21 j := fun j hj => (cp_ne (by decide)).trans (T98 j hj)
  have T118 : ∀ j : Nat, j < 4 → (am_cp (am_cp (am_cp (am_cp (am_cp (am_cp (u2 dt 1 0 (dt 18 0)) 19 2 0 0 192) 20 3 0 0 8) 21 4 0 0 256) 22 5 0 0 4) 23 6 0 0 2000) 26 9 0 0 132) 5 j = dt 22 j := fun j hj => (cp_ne (by decide)).trans (T99 j hj)
  have T119 : ∀ j : Nat, j < 2000 → (am_cp (am_cp (am_cp (am_cp (am_cp (am_cp (u2 dt 1 0 (dt 18 0)) 19 2 0 0 192) 20 3 0 0 8) 21 4 0 0 256) 22 5 0 0 4) 23 6 0 0 2000) 26 9 0 0 132) 6 j = dt 23 j := fun j hj => (cp_ne (by decide)).trans (T100 j hj)
  have T120 : ∀ j : Nat, j < 132 → (am_cp (am_cp (am_cp (am_cp (am_cp (am_cp (u2 dt 1 0 (dt 18 0)) 19 2 0 0 192) 20 3 0 0 8) 21 4 0 0 256) 22 5 0 0 4) 23 6 0 0 2000) 26 9 0 0 132) 9 j = dt 26 j := fun j hj => (cp_atv hj).trans (hF83 26 (by decide) j)
  refine go_cpy (L' := [some (.inr (.inr (some 1))), some (.inr (.inr (some 18)))]) (st' := []) (w' := (SH, (am_cp (am_cp (am_cp (am_cp (am_cp (am_cp (u2 dt 1 0 (dt 18 0)) 19 2 0 0 192) 20 3 0 0 8) 21 4 0 0 256) 22 5 0 0 4) 23 6 0 0 2000) 26 9 0 0 132))) rfl rfl (s_cpy (n0 := 132) (n1 := 132) rfl rfl ⟨⟨by omega, by omega, by omega⟩, by omega, by omega, by decide⟩) ?_
  refine go_to (k := 4) (pc' := 124) (L' := [some (.inr (.inr (some 1))), some (.inr (.inr (some 18)))]) (st' := [.inr (.inr (some 24)), .inr (.inr (some 7))]) (w' := (SH, (am_cp (am_cp (am_cp (am_cp (am_cp (am_cp (u2 dt 1 0 (dt 18 0)) 19 2 0 0 192) 20 3 0 0 8) 21 4 0 0 256) 22 5 0 0 4) 23 6 0 0 2000) 26 9 0 0 132))) (fun _ => rfl) ?_
  refine go_call (Q' := _) rfl rfl rfl rfl rfl (sp_X2_copyFrom_7f L xs sio (d + 0) (am_cp (am_cp (am_cp (am_cp (am_cp (am_cp (u2 dt 1 0 (dt 18 0)) 19 2 0 0 192) 20 3 0 0 8) 21 4 0 0 256) 22 5 0 0 4) 23 6 0 0 2000) 26 9 0 0 132) hI101   ) ?_
  rintro _ _ ⟨dt122, rfl, hI123, hF124, h121⟩
  refine ⟨rfl, ?_⟩
  have hF125 : Fr [1, 2, 3, 4, 5, 6, 7, 8, 9, 10, 11, 12, 13, 14, 15, 16, 17] dt dt122 := Fr_tr hF102 hF124 (by decide)
  have w126 : dt122 1 0 = (am_cp (am_cp (am_cp (am_cp (am_cp (am_cp (u2 dt 1 0 (dt 18 0)) 19 2 0 0 192) 20 3 0 0 8) 21 4 0 0 256) 22 5 0 0 4) 23 6 0 0 2000) 26 9 0 0 132) 1 0 := hF124 1 (by decide) 0
  have w127 : dt122 10 3 = (am_cp (am_cp (am_cp (am_cp (am_cp (am_cp (u2 dt 1 0 (dt 18 0)) 19 2 0 0 192) 20 3 0 0 8) 21 4 0 0 256) 22 5 0 0 4) 23 6 0 0 2000) 26 9 0 0 132) 10 3 := hF124 10 (by decide) 3
  have w128 : dt122 12 3 = (am_cp (am_cp (am_cp (am_cp (am_cp (am_cp (u2 dt 1 0 (dt 18 0)) 19 2 0 0 192) 20 3 0 0 8) 21 4 0 0 256) 22 5 0 0 4) 23 6 0 0 2000) 26 9 0 0 132) 12 3 := hF124 12 (by decide) 3
  have w129 : dt122 14 3 = (am_cp (am_cp (am_cp (am_cp (am_cp (am_cp (u2 dt 1 0 (dt 18 0)) 19 2 0 0 192) 20 3 0 0 8) 21 4 0 0 256) 22 5 0 0 4) 23 6 0 0 2000) 26 9 0 0 132) 14 3 := hF124 14 (by decide) 3
  have w130 : dt122 16 3 = (am_cp (am_cp (am_cp (am_cp (am_cp (am_cp (u2 dt 1 0 (dt 18 0)) 19 2 0 0 192) 20 3 0 0 8) 21 4 0 0 256) 22 5 0 0 4) 23 6 0 0 2000) 26 9 0 0 132) 16 3 := hF124 16 (by decide) 3
  have w131 : dt122 18 0 = (am_cp (am_cp (am_cp (am_cp (am_cp (am_cp (u2 dt 1 0 (dt 18 0)) 19 2 0 0 192) 20 3 0 0 8) 21 4 0 0 256) 22 5 0 0 4) 23 6 0 0 2000) 26 9 0 0 132) 18 0 := hF124 18 (by decide) 0
  have w132 : dt122 24 3 = (am_cp (am_cp (am_cp (am_cp (am_cp (am_cp (u2 dt 1 0 (dt 18 0)) 19 2 0 0 192) 20 3 0 0 8) 21 4 0 0 256) 22 5 0 0 4) 23 6 0 0 2000) 26 9 0 0 132) 24 3 := hF124 24 (by decide) 3
  have w133 : dt122 27 3 = (am_cp (am_cp (am_cp (am_cp (am_cp (am_cp (u2 dt 1 0 (dt 18 0)) 19 2 0 0 192) 20 3 0 0 8) 21 4 0 0 256) 22 5 0 0 4) 23 6 0 0 2000) 26 9 0 0 132) 27 3 := hF124 27 (by decide) 3
  have w134 : dt122 29 3 = (am_cp (am_cp (am_cp (am_cp (am_cp (am_cp (u2 dt 1 0 (dt 18 0)) 19 2 0 0 192) 20 3 0 0 8) 21 4 0 0 256) 22 5 0 0 4) 23 6 0 0 2000) 26 9 0 0 132) 29 3 := hF124 29 (by decide) 3
  have w135 : dt122 31 3 = (am_cp (am_cp (am_cp (am_cp (am_cp (am_cp (u2 dt 1 0 (dt 18 0)) 19 2 0 0 192) 20 3 0 0 8) 21 4 0 0 256) 22 5 0 0 4) 23 6 0 0 2000) 26 9 0 0 132) 31 3 := hF124 31 (by decide) 3
  have w136 : dt122 33 3 = (am_cp (am_cp (am_cp (am_cp (am_cp (am_cp (u2 dt 1 0 (dt 18 0)) 19 2 0 0 192) 20 3 0 0 8) 21 4 0 0 256) 22 5 0 0 4) 23 6 0 0 2000) 26 9 0 0 132) 33 3 := hF124 33 (by decide) 3
  rcases h121 with ⟨rfl, h121⟩
  obtain ⟨h121_0, h121_1⟩ := h121
  have T137 : ∀ j : Nat, j < 192 → dt122 2 j = dt 19 j := fun j hj => (hF124 2 (by decide) j).trans (T115 j hj)
  have T138 : ∀ j : Nat, j < 8 → dt122 3 j = dt 20 j := fun j hj => (hF124 3 (by decide) j).trans (T116 j hj)
  have T139 : ∀ j : Nat, j < 256 → dt122 4 j = dt 21 j := fun j hj => (hF124 4 (by decide) j).trans (T117 j hj)
  have T140 : ∀ j : Nat, j < 4 → dt122 5 j = dt 22 j := fun j hj => (hF124 5 (by decide) j).trans (T118 j hj)
  have T141 : ∀ j : Nat, j < 2000 → dt122 6 j = dt 23 j := fun j hj => (hF124 6 (by decide) j).trans (T119 j hj)
  have T142 : ∀ j : Nat, j < 60 → dt122 8 j = dt 25 j := fun j hj => (h121_1 j hj).trans (hF125 25 (by decide) j)
  have T143 : ∀ j : Nat, j < 132 → dt122 9 j = dt 26 j := fun j hj => (hF124 9 (by decide) j).trans (T120 j hj)
  refine go_to (k := 4) (pc' := 135) (L' := [some (.inr (.inr (some 1))), some (.inr (.inr (some 18)))]) (st' := [.inr (.inr (some 27)), .inr (.inr (some 10))]) (w' := (SH, dt122)) (fun _ => rfl) ?_
  refine go_call (Q' := _) rfl rfl rfl rfl rfl (sp_X2_copyFrom_10f L xs sio (d + 0) dt122 hI123   ) ?_
  rintro _ _ ⟨dt145, rfl, hI146, hF147, h144⟩
  refine ⟨rfl, ?_⟩
  have hF148 : Fr [1, 2, 3, 4, 5, 6, 7, 8, 9, 10, 11, 12, 13, 14, 15, 16, 17] dt dt145 := Fr_tr hF125 hF147 (by decide)
  have w149 : dt145 1 0 = dt122 1 0 := hF147 1 (by decide) 0
  have w150 : dt145 7 3 = dt122 7 3 := hF147 7 (by decide) 3
  have w151 : dt145 12 3 = dt122 12 3 := hF147 12 (by decide) 3
  have w152 : dt145 14 3 = dt122 14 3 := hF147 14 (by decide) 3
  have w153 : dt145 16 3 = dt122 16 3 := hF147 16 (by decide) 3
  have w154 : dt145 18 0 = dt122 18 0 := hF147 18 (by decide) 0
  have w155 : dt145 24 3 = dt122 24 3 := hF147 24 (by decide) 3
  have w156 : dt145 27 3 = dt122 27 3 := hF147 27 (by decide) 3
  have w157 : dt145 29 3 = dt122 29 3 := hF147 29 (by decide) 3
  have w158 : dt145 31 3 = dt122 31 3 := hF147 31 (by decide) 3
  have w159 : dt145 33 3 = dt122 33 3 := hF147 33 (by decide) 3
  rcases h144 with ⟨rfl, h144⟩
  obtain ⟨h144_0, h144_1⟩ := h144
  have T160 : ∀ j : Nat, j < 192 → dt145 2 j = dt 19 j := fun j hj => (hF147 2 (by decide) j).trans (T137 j hj)
  have T161 : ∀ j : Nat, j < 8 → dt145 3 j = dt 20 j := fun j hj => (hF147 3 (by decide) j).trans (T138 j hj)
  have T162 : ∀ j : Nat, j < 256 → dt145 4 j = dt 21 j := fun j hj => (hF147 4 (by decide) j).trans (T139 j hj)
  have T163 : ∀ j : Nat, j < 4 → dt145 5 j = dt 22 j := fun j hj => (hF147 5 (by decide) j).trans (T140 j hj)
  have T164 : ∀ j : Nat, j < 2000 → dt145 6 j = dt 23 j := fun j hj => (hF147 6 (by decide) j).trans (T141 j hj)
  have T165 : ∀ j : Nat, j < 60 → dt145 8 j = dt 25 j := fun j hj => (hF147 8 (by decide) j).trans (T142 j hj)
  have T166 : ∀ j : Nat, j < 132 → dt145 9 j = dt 26 j := fun j hj => (hF147 9 (by decide) j).trans (T143 j hj)
  have T167 : ∀ j : Nat, j < 160 → dt145 11 j = dt 28 j := fun j hj => (h144_1 j hj).trans (hF125 28 (by decide) j)
  refine go_to (k := 4) (pc' := 146) (L' := [some (.inr (.inr (some 1))), some (.inr (.inr (some 18)))]) (st' := [.inr (.inr (some 29)), .inr (.inr (some 12))]) (w' := (SH, dt145)) (fun _ => rfl) ?_
  refine go_call (Q' := _) rfl rfl rfl rfl rfl (sp_X2_copyFrom_12 L xs sio (d + 0) dt145 hI146   ) ?_
  rintro _ _ ⟨dt169, rfl, hI170, hF171, h168⟩
  refine ⟨rfl, ?_⟩
  have hF172 : Fr [1, 2, 3, 4, 5, 6, 7, 8, 9, 10, 11, 12, 13, 14, 15, 16, 17] dt dt169 := Fr_tr hF148 hF171 (by decide)
  have w173 : dt169 1 0 = dt145 1 0 := hF171 1 (by decide) 0
  have w174 : dt169 7 3 = dt145 7 3 := hF171 7 (by decide) 3
  have w175 : dt169 10 3 = dt145 10 3 := hF171 10 (by decide) 3
  have w176 : dt169 14 3 = dt145 14 3 := hF171 14 (by decide) 3
  have w177 : dt169 16 3 = dt145 16 3 := hF171 16 (by decide) 3
  have w178 : dt169 18 0 = dt145 18 0 := hF171 18 (by decide) 0
  have w179 : dt169 24 3 = dt145 24 3 := hF171 24 (by decide) 3
  have w180 : dt169 27 3 = dt145 27 3 := hF171 27 (by decide) 3
  have w181 : dt169 29 3 = dt145 29 3 := hF171 29 (by decide) 3
  have w182 : dt169 31 3 = dt145 31 3 := hF171 31 (by decide) 3
  have w183 : dt169 33 3 = dt145 33 3 := hF171 33 (by decide) 3
  rcases h168 with ⟨rfl, h168⟩
  have T184 : ∀ j : Nat, j < 192 → dt169 2 j = dt 19 j := fun j hj => (hF171 2 (by decide) j).trans (T160 j hj)
  have T185 : ∀ j : Nat, j < 8 → dt169 3 j = dt 20 j := fun j hj => (hF171 3 (by decide) j).trans (T161 j hj)
  have T186 : ∀ j : Nat, j < 256 → dt169 4 j = dt 21 j := fun j hj => (hF171 4 (by decide) j).trans (T162 j hj)
  have T187 : ∀ j : Nat, j < 4 → dt169 5 j = dt 22 j := fun j hj => (hF171 5 (by decide) j).trans (T163 j hj)
  have T188 : ∀ j : Nat, j < 2000 → dt169 6 j = dt 23 j := fun j hj => (hF171 6 (by decide) j).trans (T164 j hj)
  have T189 : ∀ j : Nat, j < 60 → dt169 8 j = dt 25 j := fun j hj => (hF171 8 (by decide) j).trans (T165 j hj)
  have T190 : ∀ j : Nat, j < 132 → dt169 9 j = dt 26 j := fun j hj => (hF171 9 (by decide) j).trans (T166 j hj)
  have T191 : ∀ j : Nat, j < 160 → dt169 11 j = dt 28 j := fun j hj => (hF171 11 (by decide) j).trans (T167 j hj)
  refine go_to (k := 4) (pc' := 157) (L' := [some (.inr (.inr (some 1))), some (.inr (.inr (some 18)))]) (st' := [.inr (.inr (some 31)), .inr (.inr (some 14))]) (w' := (SH, dt169)) (fun _ => rfl) ?_
  refine go_call (Q' := _) rfl rfl rfl rfl rfl (sp_X2_copyFrom_14 L xs sio (d + 0) dt169 hI170   ) ?_
  rintro _ _ ⟨dt193, rfl, hI194, hF195, h192⟩
  refine ⟨rfl, ?_⟩
  have hF196 : Fr [1, 2, 3, 4, 5, 6, 7, 8, 9, 10, 11, 12, 13, 14, 15, 16, 17] dt dt193 := Fr_tr hF172 hF195 (by decide)
  have w197 : dt193 1 0 = dt169 1 0 := hF195 1 (by decide) 0
  have w198 : dt193 7 3 = dt169 7 3 := hF195 7 (by decide) 3
  have w199 : dt193 10 3 = dt169 10 3 := hF195 10 (by decide) 3
  have w200 : dt193 12 3 = dt169 12 3 := hF195 12 (by decide) 3
  have w201 : dt193 16 3 = dt169 16 3 := hF195 16 (by decide) 3
  have w202 : dt193 18 0 = dt169 18 0 := hF195 18 (by decide) 0
  have w203 : dt193 24 3 = dt169 24 3 := hF195 24 (by decide) 3
  have w204 : dt193 27 3 = dt169 27 3 := hF195 27 (by decide) 3
  have w205 : dt193 29 3 = dt169 29 3 := hF195 29 (by decide) 3
  have w206 : dt193 31 3 = dt169 31 3 := hF195 31 (by decide) 3
  have w207 : dt193 33 3 = dt169 33 3 := hF195 33 (by decide) 3
  rcases h192 with ⟨rfl, h192⟩
  have T208 : ∀ j : Nat, j < 192 → dt193 2 j = dt 19 j := fun j hj => (hF195 2 (by decide) j).trans (T184 j hj)
  have T209 : ∀ j : Nat, j < 8 → dt193 3 j = dt 20 j := fun j hj => (hF195 3 (by decide) j).trans (T185 j hj)
  have T210 : ∀ j : Nat, j < 256 → dt193 4 j = dt 21 j := fun j hj => (hF195 4 (by decide) j).trans (T186 j hj)
  have T211 : ∀ j : Nat, j < 4 → dt193 5 j = dt 22 j := fun j hj => (hF195 5 (by decide) j).trans (T187 j hj)
  have T212 : ∀ j : Nat, j < 2000 → dt193 6 j = dt 23 j := fun j hj => (hF195 6 (by decide) j).trans (T188 j hj)
  have T213 : ∀ j : Nat, j < 60 → dt193 8 j = dt 25 j := fun j hj => (hF195 8 (by decide) j).trans (T189 j hj)
  have T214 : ∀ j : Nat, j < 132 → dt193 9 j = dt 26 j := fun j hj => (hF195 9 (by decide) j).trans (T190 j hj)
  have T215 : ∀ j : Nat, j < 160 → dt193 11 j = dt 28 j := fun j hj => (hF195 11 (by decide) j).trans (T191 j hj)
  refine go_to (k := 4) (pc' := 168) (L' := [some (.inr (.inr (some 1))), some (.inr (.inr (some 18)))]) (st' := [.inr (.inr (some 33)), .inr (.inr (some 16))]) (w' := (SH, dt193)) (fun _ => rfl) ?_
  refine go_call (Q' := _) rfl rfl rfl rfl rfl (sp_X2_copyFrom_16 L xs sio (d + 0) dt193 hI194   ) ?_
  rintro _ _ ⟨dt217, rfl, hI218, hF219, h216⟩
  refine ⟨rfl, ?_⟩
  have hF220 : Fr [1, 2, 3, 4, 5, 6, 7, 8, 9, 10, 11, 12, 13, 14, 15, 16, 17] dt dt217 := Fr_tr hF196 hF219 (by decide)
  have w221 : dt217 1 0 = dt193 1 0 := hF219 1 (by decide) 0
  have w222 : dt217 7 3 = dt193 7 3 := hF219 7 (by decide) 3
  have w223 : dt217 10 3 = dt193 10 3 := hF219 10 (by decide) 3
  have w224 : dt217 12 3 = dt193 12 3 := hF219 12 (by decide) 3
  have w225 : dt217 14 3 = dt193 14 3 := hF219 14 (by decide) 3
  have w226 : dt217 18 0 = dt193 18 0 := hF219 18 (by decide) 0
  have w227 : dt217 24 3 = dt193 24 3 := hF219 24 (by decide) 3
  have w228 : dt217 27 3 = dt193 27 3 := hF219 27 (by decide) 3
  have w229 : dt217 29 3 = dt193 29 3 := hF219 29 (by decide) 3
  have w230 : dt217 31 3 = dt193 31 3 := hF219 31 (by decide) 3
  have w231 : dt217 33 3 = dt193 33 3 := hF219 33 (by decide) 3
  rcases h216 with ⟨rfl, h216⟩
  have T232 : ∀ j : Nat, j < 192 → dt217 2 j = dt 19 j := fun j hj => (hF219 2 (by decide) j).trans (T208 j hj)
  have T233 : ∀ j : Nat, j < 8 → dt217 3 j = dt 20 j := fun j hj => (hF219 3 (by decide) j).trans (T209 j hj)
  have T234 : ∀ j : Nat, j < 256 → dt217 4 j = dt 21 j := fun j hj => (hF219 4 (by decide) j).trans (T210 j hj)
  have T235 : ∀ j : Nat, j < 4 → dt217 5 j = dt 22 j := fun j hj => (hF219 5 (by decide) j).trans (T211 j hj)
  have T236 : ∀ j : Nat, j < 2000 → dt217 6 j = dt 23 j := fun j hj => (hF219 6 (by decide) j).trans (T212 j hj)
  have T237 : ∀ j : Nat, j < 60 → dt217 8 j = dt 25 j := fun j hj => (hF219 8 (by decide) j).trans (T213 j hj)
  have T238 : ∀ j : Nat, j < 132 → dt217 9 j = dt 26 j := fun j hj => (hF219 9 (by decide) j).trans (T214 j hj)
  have T239 : ∀ j : Nat, j < 160 → dt217 11 j = dt 28 j := fun j hj => (hF219 11 (by decide) j).trans (T215 j hj)
  refine go_ret (k := 1) (r := none) (w1 := (SH, dt217)) (fun _ => rfl) ?_
  exact ⟨dt217, rfl, hI218, hF220, ⟨rfl, ⟨by first | trivial | omega, by first | trivial | omega, by first | trivial | omega, by first | trivial | omega, by first | trivial | omega, by first | trivial | omega, by exact T232, by exact T233, by exact T234, by exact T235, by exact T236, by exact T237, by exact T238, by exact T239⟩⟩⟩
theorem chk_sp_X0_copyFrom_18w (L : Nat) (xs : Nat → Int32) (sio : Option Nat) (d : Nat) (dt : Nat → Nat → Int) (hI : InvC dt)    : GO (am_XX L xs sio) (d + 2) 4 0 [some (.inr (.inr (some 18))), some (.inr (.inr (some 1)))] [] (SH, dt) (fun r w2 => ∃ dt2 : Nat → Nat → Int, w2 = (SH, dt2) ∧ InvC dt2 ∧ Fr [18, 19, 20, 21, 22, 23, 24, 25, 26, 27, 28, 29, 30, 31, 32, 33, 34] dt dt2 ∧ ((r = none ∧ (dt2 18 0 = dt 1 0) ∧ (dt2 24 3 = dt 7 3) ∧ (dt2 27 3 = dt 10 3) ∧ (dt2 29 3 = dt 12 3) ∧ (dt2 31 3 = dt 14 3) ∧ (dt2 33 3 = dt 16 3) ∧ (∀ j : Nat, j < 192 → dt2 19 j = dt 2 j) ∧ (∀ j : Nat, j < 8 → dt2 20 j = dt 3 j) ∧ (∀ j : Nat, j < 256 → dt2 21 j = dt 4 j) ∧ (∀ j : Nat, j < 4 → dt2 22 j = dt 5 j) ∧ (∀ j : Nat, j < 2000 → dt2 23 j = dt 6 j) ∧ (∀ j : Nat, j < 60 → dt2 25 j = dt 8 j) ∧ (∀ j : Nat, j < 132 → dt2 26 j = dt 9 j) ∧ (∀ j : Nat, j < 160 → dt2 28 j = dt 11 j)))) := by
  have hF : Fr [18, 19, 20, 21, 22, 23, 24, 25, 26, 27, 28, 29, 30, 31, 32, 33, 34] dt dt := Fr_refl
  have r1 : (-2147483648) ≤ dt 1 0 ∧ dt 1 0 ≤ 2147483647 := InvC_get hI 1 0 rfl rfl
  refine go_to (k := 3) (pc' := 5) (L' := [some (.inr (.inr (some 18))), some (.inr (.inr (some 1)))]) (st' := [.inl (dt 1 0), .inr (.inr (some 18))]) (w' := (SH, dt)) (fun _ => rfl) ?_
  have hI2 : InvC (u2 dt 18 0 (dt 1 0)) := InvC_u2 hI (lo := -2147483648) (hi := 2147483647) rfl rfl rfl (by omega) (by omega)
  have hF3 : Fr [18, 19, 20, 21, 22, 23, 24, 25, 26, 27, 28, 29, 30, 31, 32, 33, 34] dt (u2 dt 18 0 (dt 1 0)) := Fr_u2 hF (by decide)
  have w4 : (u2 dt 18 0 (dt 1 0)) 18 0 = dt 1 0 := rfl
  have w5 : (u2 dt 18 0 (dt 1 0)) 24 3 = dt 24 3 := rfl
  have w6 : (u2 dt 18 0 (dt 1 0)) 27 3 = dt 27 3 := rfl
  have w7 : (u2 dt 18 0 (dt 1 0)) 29 3 = dt 29 3 := rfl
  have w8 : (u2 dt 18 0 (dt 1 0)) 31 3 = dt 31 3 := rfl
  have w9 : (u2 dt 18 0 (dt 1 0)) 33 3 = dt 33 3 := rfl
  have w10 : (u2 dt 18 0 (dt 1 0)) 1 0 = dt 1 0 := rfl
  have w11 : (u2 dt 18 0 (dt 1 0)) 7 3 = dt 7 3 := rfl
  have w12 : (u2 dt 18 0 (dt 1 0)) 10 3 = dt 10 3 := rfl
  have w13 : (u2 dt 18 0 (dt 1 0)) 12 3 = dt 12 3 := rfl
  have w14 : (u2 dt 18 0 (dt 1 0)) 14 3 = dt 14 3 := rfl
  have w15 : (u2 dt 18 0 (dt 1 0)) 16 3 = dt 16 3 := rfl
  refine go_smp (L' := [some (.inr (.inr (some 18))), some (.inr (.inr (some 1)))]) (st' := []) (w' := (SH, (u2 dt 18 0 (dt 1 0)))) rfl rfl (s_pf rfl rfl rfl rfl ⟨by omega, by omega⟩) ?_
  refine go_to (k := 9) (pc' := 23) (L' := [some (.inr (.inr (some 18))), some (.inr (.inr (some 1)))]) (st' := [.inl 192, .inl 0, .inr (.inr (some 19)), .inl 0, .inr (.inr (some 2))]) (w' := (SH, (u2 dt 18 0 (dt 1 0)))) (fun _ => rfl) ?_
  have hI16 : InvC (am_cp (u2 dt 18 0 (dt 1 0)) 2 19 0 0 192) := InvC_cp hI2 (fun _ _ => rfl) (fun _ _ => rfl) (fun _ => rfl)
  have hF17 : Fr [18, 19, 20, 21, 22, 23, 24, 25, 26, 27, 28, 29, 30, 31, 32, 33, 34] dt (am_cp (u2 dt 18 0 (dt 1 0)) 2 19 0 0 192) := Fr_cp hF3 (by decide)
  have w18 : (am_cp (u2 dt 18 0 (dt 1 0)) 2 19 0 0 192) 18 0 = (u2 dt 18 0 (dt 1 0)) 18 0 := rfl
  have w19 : (am_cp (u2 dt 18 0 (dt 1 0)) 2 19 0 0 192) 24 3 = (u2 dt 18 0 (dt 1 0)) 24 3 := rfl
  have w20 : (am_cp (u2 dt 18 0 (dt 1 0)) 2 19 0 0 192) 27 3 = (u2 dt 18 0 (dt 1 0)) 27 3 := rfl
  have w21 : (am_cp (u2 dt 18 0 (dt 1 0)) 2 19 0 0 192) 29 3 = (u2 dt 18 0 (dt 1 0)) 29 3 := rfl
  have w22 : (am_cp (u2 dt 18 0 (dt 1 0)) 2 19 0 0 192) 31 3 = (u2 dt 18 0 (dt 1 0)) 31 3 := rfl
  have w23 : (am_cp (u2 dt 18 0 (dt 1 0)) 2 19 0 0 192) 33 3 = (u2 dt 18 0 (dt 1 0)) 33 3 := rfl
  have w24 : (am_cp (u2 dt 18 0 (dt 1 0)) 2 19 0 0 192) 1 0 = (u2 dt 18 0 (dt 1 0)) 1 0 := rfl
  have w25 : (am_cp (u2 dt 18 0 (dt 1 0)) 2 19 0 0 192) 7 3 = (u2 dt 18 0 (dt 1 0)) 7 3 := rfl
  have w26 : (am_cp (u2 dt 18 0 (dt 1 0)) 2 19 0 0 192) 10 3 = (u2 dt 18 0 (dt 1 0)) 10 3 := rfl
  have w27 : (am_cp (u2 dt 18 0 (dt 1 0)) 2 19 0 0 192) 12 3 = (u2 dt 18 0 (dt 1 0)) 12 3 := rfl
  have w28 : (am_cp (u2 dt 18 0 (dt 1 0)) 2 19 0 0 192) 14 3 = (u2 dt 18 0 (dt 1 0)) 14 3 := rfl
  have w29 : (am_cp (u2 dt 18 0 (dt 1 0)) 2 19 0 0 192) 16 3 = (u2 dt 18 0 (dt 1 0)) 16 3 := rfl
  have T30 : ∀ j : Nat, j < 192 → (am_cp (u2 dt 18 0 (dt 1 0)) 2 19 0 0 192) 19 j = dt 2 j := fun j hj => (cp_atv hj).trans (hF3 2 (by decide) j)
  refine go_cpy (L' := [some (.inr (.inr (some 18))), some (.inr (.inr (some 1)))]) (st' := []) (w' := (SH, (am_cp (u2 dt 18 0 (dt 1 0)) 2 19 0 0 192))) rfl rfl (s_cpy (n0 := 192) (n1 := 192) rfl rfl ⟨⟨by omega, by omega, by omega⟩, by omega, by omega, by decide⟩) ?_
  refine go_to (k := 9) (pc' := 41) (L' := [some (.inr (.inr (some 18))), some (.inr (.inr (some 1)))]) (st' := [.inl 8, .inl 0, .inr (.inr (some 20)), .inl 0, .inr (.inr (some 3))]) (w' := (SH, (am_cp (u2 dt 18 0 (dt 1 0)) 2 19 0 0 192))) (fun _ => rfl) ?_
  have hI31 : InvC (am_cp (am_cp (u2 dt 18 0 (dt 1 0)) 2 19 0 0 192) 3 20 0 0 8) := InvC_cp hI16 (fun _ _ => rfl) (fun _ _ => rfl) (fun _ => rfl)
  have hF32 : Fr [18, 19, 20, 21, 22, 23, 24, 25, 26, 27, 28, 29, 30, 31, 32, 33, 34] dt (am_cp (am_cp (u2 dt 18 0 (dt 1 0)) 2 19 0 0 192) 3 20 0 0 8) := Fr_cp hF17 (by decide)
  have w33 : (am_cp (am_cp (u2 dt 18 0 (dt 1 0)) 2 19 0 0 192) 3 20 0 0 8) 18 0 = (am_cp (u2 dt 18 0 (dt 1 0)) 2 19 0 0 192) 18 0 := rfl
  have w34 : (am_cp (am_cp (u2 dt 18 0 (dt 1 0)) 2 19 0 0 192) 3 20 0 0 8) 24 3 = (am_cp (u2 dt 18 0 (dt 1 0)) 2 19 0 0 192) 24 3 := rfl
  have w35 : (am_cp (am_cp (u2 dt 18 0 (dt 1 0)) 2 19 0 0 192) 3 20 0 0 8) 27 3 = (am_cp (u2 dt 18 0 (dt 1 0)) 2 19 0 0 192) 27 3 := rfl
  have w36 : (am_cp (am_cp (u2 dt 18 0 (dt 1 0)) 2 19 0 0 192) 3 20 0 0 8) 29 3 = (am_cp (u2 dt 18 0 (dt 1 0)) 2 19 0 0 192) 29 3 := rfl
  have w37 : (am_cp (am_cp (u2 dt 18 0 (dt 1 0)) 2 19 0 0 192) 3 20 0 0 8) 31 3 = (am_cp (u2 dt 18 0 (dt 1 0)) 2 19 0 0 192) 31 3 := rfl
  have w38 : (am_cp (am_cp (u2 dt 18 0 (dt 1 0)) 2 19 0 0 192) 3 20 0 0 8) 33 3 = (am_cp (u2 dt 18 0 (dt 1 0)) 2 19 0 0 192) 33 3 := rfl
  have w39 : (am_cp (am_cp (u2 dt 18 0 (dt 1 0)) 2 19 0 0 192) 3 20 0 0 8) 1 0 = (am_cp (u2 dt 18 0 (dt 1 0)) 2 19 0 0 192) 1 0 := rfl
  have w40 : (am_cp (am_cp (u2 dt 18 0 (dt 1 0)) 2 19 0 0 192) 3 20 0 0 8) 7 3 = (am_cp (u2 dt 18 0 (dt 1 0)) 2 19 0 0 192) 7 3 := rfl
  have w41 : (am_cp (am_cp (u2 dt 18 0 (dt 1 0)) 2 19 0 0 192) 3 20 0 0 8) 10 3 = (am_cp (u2 dt 18 0 (dt 1 0)) 2 19 0 0 192) 10 3 := rfl
  have w42 : (am_cp (am_cp (u2 dt 18 0 (dt 1 0)) 2 19 0 0 192) 3 20 0 0 8) 12 3 = (am_cp (u2 dt 18 0 (dt 1 0)) 2 19 0 0 192) 12 3 := rfl
  have w43 : (am_cp (am_cp (u2 dt 18 0 (dt 1 0)) 2 19 0 0 192) 3 20 0 0 8) 14 3 = (am_cp (u2 dt 18 0 (dt 1 0)) 2 19 0 0 192) 14 3 := rfl
  have w44 : (am_cp (am_cp (u2 dt 18 0 (dt 1 0)) 2 19 0 0 192) 3 20 0 0 8) 16 3 = (am_cp (u2 dt 18 0 (dt 1 0)) 2 19 0 0 192) 16 3 := rfl
  have T45 : ∀ j : Nat, j < 192 → (am_cp (am_cp (u2 dt 18 0 (dt 1 0)) 2 19 0 0 192) 3 20 0 0 8) 19 j = dt 2 j := fun j hj => (cp_ne (by decide)).trans (T30 j hj)
  have T46 : ∀ j : Nat, j < 8 → (am_cp (am_cp (u2 dt 18 0 (dt 1 0)) 2 19 0 0 192) 3 20 0 0 8) 20 j = dt 3 j := fun j hj => (cp_atv hj).trans (hF17 3 (by decide) j)
  refine go_cpy (L' := [some (.inr (.inr (some 18))), some (.inr (.inr (some 1)))]) (st' := []) (w' := (SH, (am_cp (am_cp (u2 dt 18 0 (dt 1 0)) 2 19 0 0 192) 3 20 0 0 8))) rfl rfl (s_cpy (n0 := 8) (n1 := 8) rfl rfl ⟨⟨by omega, by omega, by omega⟩, by omega, by omega, by decide⟩) ?_
  refine go_to (k := 9) (pc' := 59) (L' := [some (.inr (.inr (some 18))), some (.inr (.inr (some 1)))]) (st' := [.inl 256, .inl 0, .inr (.inr (some 21)), .inl 0, .inr (.inr (some 4))]) (w' := (SH, (am_cp (am_cp (u2 dt 18 0 (dt 1 0)) 2 19 0 0 192) 3 20 0 0 8))) (fun _ => rfl) ?_
  have hI47 : InvC (am_cp (am_cp (am_cp (u2 dt 18 0 (dt 1 0)) 2 19 0 0 192) 3 20 0 0 8) 4 21 0 0 256) := InvC_cp hI31 (fun _ _ => rfl) (fun _ _ => rfl) (fun _ => rfl)
  have hF48 : Fr [18, 19, 20, 21, 22, 23, 24, 25, 26, 27, 28, 29, 30, 31, 32, 33, 34] dt (am_cp (am_cp (am_cp (u2 dt 18 0 (dt 1 0)) 2 19 0 0 192) 3 20 0 0 8) 4 21 0 0 256) := Fr_cp hF32 (by decide)
  have w49 : (am_cp (am_cp (am_cp (u2 dt 18 0 (dt 1 0)) 2 19 0 0 192) 3 20 0 0 8) 4 21 0 0 256) 18 0 = (am_cp (am_cp (u2 dt 18 0 (dt 1 0)) 2 19 0 0 192) 3 20 0 0 8) 18 0 := rfl
  have w50 : (am_cp (am_cp (am_cp (u2 dt 18 0 (dt 1 0)) 2 19 0 0 192) 3 20 0 0 8) 4 21 0 0 256) 24 3 = (am_cp (am_cp (u2 dt 18 0 (dt 1 0)) 2 19 0 0 192) 3 20 0 0 8) 24 3 := rfl
  have w51 : (am_cp (am_cp (am_cp (u2 dt 18 0 (dt 1 0)) 2 19 0 0 192) 3 20 0 0 8) 4 21 0 0 256) 27 3 = (am_cp (am_cp (u2 dt 18 0 (dt 1 0)) 2 19 0 0 192) 3 20 0 0 8) 27 3 := rfl
  have w52 : (am_cp (am_cp (am_cp (u2 dt 18 0 (dt 1 0)) 2 19 0 0 192) 3 20 0 0 8) 4 21 0 0 256) 29 3 = (am_cp (am_cp (u2 dt 18 0 (dt 1 0)) 2 19 0 0 192) 3 20 0 0 8) 29 3 := rfl
  have w53 : (am_cp (am_cp (am_cp (u2 dt 18 0 (dt 1 0)) 2 19 0 0 192) 3 20 0 0 8) 4 21 0 0 256) 31 3 = (am_cp (am_cp (u2 dt 18 0 (dt 1 0)) 2 19 0 0 192) 3 20 0 0 8) 31 3 := rfl
  have w54 : (am_cp (am_cp (am_cp (u2 dt 18 0 (dt 1 0)) 2 19 0 0 192) 3 20 0 0 8) 4 21 0 0 256) 33 3 = (am_cp (am_cp (u2 dt 18 0 (dt 1 0)) 2 19 0 0 192) 3 20 0 0 8) 33 3 := rfl
  have w55 : (am_cp (am_cp (am_cp (u2 dt 18 0 (dt 1 0)) 2 19 0 0 192) 3 20 0 0 8) 4 21 0 0 256) 1 0 = (am_cp (am_cp (u2 dt 18 0 (dt 1 0)) 2 19 0 0 192) 3 20 0 0 8) 1 0 := rfl
  have w56 : (am_cp (am_cp (am_cp (u2 dt 18 0 (dt 1 0)) 2 19 0 0 192) 3 20 0 0 8) 4 21 0 0 256) 7 3 = (am_cp (am_cp (u2 dt 18 0 (dt 1 0)) 2 19 0 0 192) 3 20 0 0 8) 7 3 := rfl
  have w57 : (am_cp (am_cp (am_cp (u2 dt 18 0 (dt 1 0)) 2 19 0 0 192) 3 20 0 0 8) 4 21 0 0 256) 10 3 = (am_cp (am_cp (u2 dt 18 0 (dt 1 0)) 2 19 0 0 192) 3 20 0 0 8) 10 3 := rfl
  have w58 : (am_cp (am_cp (am_cp (u2 dt 18 0 (dt 1 0)) 2 19 0 0 192) 3 20 0 0 8) 4 21 0 0 256) 12 3 = (am_cp (am_cp (u2 dt 18 0 (dt 1 0)) 2 19 0 0 192) 3 20 0 0 8) 12 3 := rfl
  have w59 : (am_cp (am_cp (am_cp (u2 dt 18 0 (dt 1 0)) 2 19 0 0 192) 3 20 0 0 8) 4 21 0 0 256) 14 3 = (am_cp (am_cp (u2 dt 18 0 (dt 1 0)) 2 19 0 0 192) 3 20 0 0 8) 14 3 := rfl
  have w60 : (am_cp (am_cp (am_cp (u2 dt 18 0 (dt 1 0)) 2 19 0 0 192) 3 20 0 0 8) 4 21 0 0 256) 16 3 = (am_cp (am_cp (u2 dt 18 0 (dt 1 0)) 2 19 0 0 192) 3 20 0 0 8) 16 3 := rfl
  have T61 : ∀ j : Nat, j < 192 → (am_cp (am_cp (am_cp (u2 dt 18 0 (dt 1 0)) 2 19 0 0 192) 3 20 0 0 8) 4 21 0 0 256) 19 j = dt 2 j := fun j hj => (cp_ne (by decide)).trans (T45 j hj)
  have T62 : ∀ j : Nat, j < 8 → (am_cp (am_cp (am_cp (u2 dt 18 0 (dt 1 0)) 2 19 0 0 192) 3 20 0 0 8) 4 21 0 0 256) 20 j = dt 3 j := fun j hj => (cp_ne (by decide)).trans (T46 j hj)
  have T63 : ∀ j : Nat, j < 256 → (am_cp (am_cp (am_cp (u2 dt 18 0 (dt 1 0)) 2 19 0 0 192) 3 20 0 0 8) 4 21 0 0 256) 21 j = dt 4 j := fun j hj => (cp_atv hj).trans (hF32 4 (by decide) j)
  refine go_cpy (L' := [some (.inr (.inr (some 18))), some (.inr (.inr (some 1)))]) (st' := []) (w' := (SH, (am_cp (am_cp (am_cp (u2 dt 18 0 (dt 1 0)) 2 19 0 0 192) 3 20 0 0 8) 4 21 0 0 256))) rfl rfl (s_cpy (n0 := 256) (n1 := 256) rfl rfl ⟨⟨by omega, by omega, by omega⟩, by omega, by omega, by decide⟩) ?_
  refine go_to (k := 9) (pc' := 77) (L' := [some (.inr (.inr (some 18))), some (.inr (.inr (some 1)))]) (st' := [.inl 4, .inl 0, .inr (.inr (some 22)), .inl 0, .inr (.inr (some 5))]) (w' := (SH, (am_cp (am_cp (am_cp (u2 dt 18 0 (dt 1 0)) 2 19 0 0 192) 3 20 0 0 8) 4 21 0 0 256))) (fun _ => rfl) ?_
  have hI64 : InvC (am_cp (am_cp (am_cp (am_cp (u2 dt 18 0 (dt 1 0)) 2 19 0 0 192) 3 20 0 0 8) 4 21 0 0 256) 5 22 0 0 4) := InvC_cp hI47 (fun _ _ => rfl) (fun _ _ => rfl) (fun _ => rfl)
  have hF65 : Fr [18, 19, 20, 21, 22, 23, 24, 25, 26, 27, 28, 29, 30, 31, 32, 33, 34] dt (am_cp (am_cp (am_cp (am_cp (u2 dt 18 0 (dt 1 0)) 2 19 0 0 192) 3 20 0 0 8) 4 21 0 0 256) 5 22 0 0 4) := Fr_cp hF48 (by decide)
  have w66 : (am_cp (am_cp (am_cp (am_cp (u2 dt 18 0 (dt 1 0)) 2 19 0 0 192) 3 20 0 0 8) 4 21 0 0 256) 5 22 0 0 4) 18 0 = (am_cp (am_cp (am_cp (u2 dt 18 0 (dt 1 0)) 2 19 0 0 192) 3 20 0 0 8) 4 21 0 0 256) 18 0 := rfl
  have w67 : (am_cp (am_cp (am_cp (am_cp (u2 dt 18 0 (dt 1 0)) 2 19 0 0 192) 3 20 0 0 8) 4 21 0 0 256) 5 22 0 0 4) 24 3 = (am_cp (am_cp (am_cp (u2 dt 18 0 (dt 1 0)) 2 19 0 0 192) 3 20 0 0 8) 4 21 0 0 256) 24 3 := rfl
  have w68 : (am_cp (am_cp (am_cp (am_cp (u2 dt 18 0 (dt 1 0)) 2 19 0 0 192) 3 20 0 0 8) 4 21 0 0 256) 5 22 0 0 4) 27 3 = (am_cp (am_cp (am_cp (u2 dt 18 0 (dt 1 0)) 2 19 0 0 192) 3 20 0 0 8) 4 21 0 0 256) 27 3 := rfl
  have w69 : (am_cp (am_cp (am_cp (am_cp (u2 dt 18 0 (dt 1 0)) 2 19 0 0 192) 3 20 0 0 8) 4 21 0 0 256) 5 22 0 0 4) 29 3 = (am_cp (am_cp (am_cp (u2 dt 18 0 (dt 1 0)) 2 19 0 0 192) 3 20 0 0 8) 4 21 0 0 256) 29 3 := rfl
  have w70 : (am_cp (am_cp (am_cp (am_cp (u2 dt 18 0 (dt 1 0)) 2 19 0 0 192) 3 20 0 0 8) 4 21 0 0 256) 5 22 0 0 4) 31 3 = (am_cp (am_cp (am_cp (u2 dt 18 0 (dt 1 0)) 2 19 0 0 192) 3 20 0 0 8) 4 21 0 0 256) 31 3 := rfl
  have w71 : (am_cp (am_cp (am_cp (am_cp (u2 dt 18 0 (dt 1 0)) 2 19 0 0 192) 3 20 0 0 8) 4 21 0 0 256) 5 22 0 0 4) 33 3 = (am_cp (am_cp (am_cp (u2 dt 18 0 (dt 1 0)) 2 19 0 0 192) 3 20 0 0 8) 4 21 0 0 256) 33 3 := rfl
  have w72 : (am_cp (am_cp (am_cp (am_cp (u2 dt 18 0 (dt 1 0)) 2 19 0 0 192) 3 20 0 0 8) 4 21 0 0 256) 5 22 0 0 4) 1 0 = (am_cp (am_cp (am_cp (u2 dt 18 0 (dt 1 0)) 2 19 0 0 192) 3 20 0 0 8) 4 21 0 0 256) 1 0 := rfl
  have w73 : (am_cp (am_cp (am_cp (am_cp (u2 dt 18 0 (dt 1 0)) 2 19 0 0 192) 3 20 0 0 8) 4 21 0 0 256) 5 22 0 0 4) 7 3 = (am_cp (am_cp (am_cp (u2 dt 18 0 (dt 1 0)) 2 19 0 0 192) 3 20 0 0 8) 4 21 0 0 256) 7 3 := rfl
  have w74 : (am_cp (am_cp (am_cp (am_cp (u2 dt 18 0 (dt 1 0)) 2 19 0 0 192) 3 20 0 0 8) 4 21 0 0 256) 5 22 0 0 4) 10 3 = (am_cp (am_cp (am_cp (u2 dt 18 0 (dt 1 0)) 2 19 0 0 192) 3 20 0 0 8) 4 21 0 0 256) 10 3 := rfl
  have w75 : (am_cp (am_cp (am_cp (am_cp (u2 dt 18 0 (dt 1 0)) 2 19 0 0 192) 3 20 0 0 8) 4 21 0 0 256) 5 22 0 0 4) 12 3 = (am_cp (am_cp (am_cp (u2 dt 18 0 (dt 1 0)) 2 19 0 0 192) 3 20 0 0 8) 4 21 0 0 256) 12 3 := rfl
  have w76 : (am_cp (am_cp (am_cp (am_cp (u2 dt 18 0 (dt 1 0)) 2 19 0 0 192) 3 20 0 0 8) 4 21 0 0 256) 5 22 0 0 4) 14 3 = (am_cp (am_cp (am_cp (u2 dt 18 0 (dt 1 0)) 2 19 0 0 192) 3 20 0 0 8) 4 21 0 0 256) 14 3 := rfl
  have w77 : (am_cp (am_cp (am_cp (am_cp (u2 dt 18 0 (dt 1 0)) 2 19 0 0 192) 3 20 0 0 8) 4 21 0 0 256) 5 22 0 0 4) 16 3 = (am_cp (am_cp (am_cp (u2 dt 18 0 (dt 1 0)) 2 19 0 0 192) 3 20 0 0 8) 4 21 0 0 256) 16 3 := rfl
  have T78 : ∀ j : Nat, j < 192 → (am_cp (am_cp (am_cp (am_cp (u2 dt 18 0 (dt 1 0)) 2 19 0 0 192) 3 20 0 0 8) 4 21 0 0 256) 5 22 0 0 4) 19 j = dt 2 j := fun j hj => (cp_ne (by decide)).trans (T61 j hj)
  have T79 : ∀ j : Nat, j < 8 → (am_cp (am_cp (am_cp (am_cp (u2 dt 18 0 (dt 1 0)) 2 19 0 0 192) 3 20 0 0 8) 4 21 0 0 256) 5 22 0 0 4) 20 j = dt 3 j := fun j hj => (cp_ne (by decide)).trans (T62 j hj)
  have T80 : ∀ j : Nat, j < 256 → (am_cp (am_cp (am_cp (am_cp (u2 dt 18 0 (dt 1 0)) 2 19 0 0 192) 3 20 0 0 8) 4 21 0 0 256) 5 22 0 0 4) 21 j = dt 4 j := fun j hj => (cp_ne (by decide)).trans (T63 j hj)
  have T81 : ∀ j : Nat, j < 4 → (am_cp (am_cp (am_cp (am_cp (u2 dt 18 0 (dt 1 0)) 2 19 0 0 192) 3 20 0 0 8) 4 21 0 0 256) 5 22 0 0 4) 22 j = dt 5 j := fun j hj => (cp_atv hj).trans (hF48 5 (by decide) j)
  refine go_cpy (L' := [some (.inr (.inr (some 18))), some (.inr (.inr (some 1)))]) (st' := []) (w' := (SH, (am_cp (am_cp (am_cp (am_cp (u2 dt 18 0 (dt 1 0)) 2 19 0 0 192) 3 20 0 0 8) 4 21 0 0 256) 5 22 0 0 4))) rfl rfl (s_cpy (n0 := 4) (n1 := 4) rfl rfl ⟨⟨by omega, by omega, by omega⟩, by omega, by omega, by decide⟩) ?_
  refine go_to (k := 9) (pc' := 95) (L' := [some (.inr (.inr (some 18))), some (.inr (.inr (some 1)))]) (st' := [.inl 2000, .inl 0, .inr (.inr (some 23)), .inl 0, .inr (.inr (some 6))]) (w' := (SH, (am_cp (am_cp (am_cp (am_cp (u2 dt 18 0 (dt 1 0)) 2 19 0 0 192) 3 20 0 0 8) 4 21 0 0 256) 5 22 0 0 4))) (fun _ => rfl) ?_
  have hI82 : InvC (am_cp (am_cp (am_cp (am_cp (am_cp (u2 dt 18 0 (dt 1 0)) 2 19 0 0 192) 3 20 0 0 8) 4 21 0 0 256) 5 22 0 0 4) 6 23 0 0 2000) := InvC_cp hI64 (fun _ _ => rfl) (fun _ _ => rfl) (fun _ => rfl)
  have hF83 : Fr [18, 19, 20, 21, 22, 23, 24, 25, 26, 27, 28, 29, 30, 31, 32, 33, 34] dt (am_cp (am_cp (am_cp (am_cp (am_cp (u2 dt 18 0 (dt 1 0)) 2 19 0 0 192) 3 20 0 0 8) 4 21 0 0 256) 5 22 0 0 4) 6 23 0 0 2000) := Fr_cp hF65 (by decide)
  have w84 : (am_cp (am_cp (am_cp (am_cp (am_cp (u2 dt 18 0 (dt 1 0)) 2 19 0 0 192) 3 20 0 0 8) 4 21 0 0 256) 5 22 0 0 4) 6 23 0 0 2000) 18 0 = (am_cp (am_cp (am_cp (am_cp (u2 dt 18 0 (dt 1 0)) 2 19 0 0 192) 3 20 0 0 8) 4 21 0 0 256) 5 22 0 0 4) 18 0 := rfl
  have w85 : (am_cp (am_cp (am_cp (am_cp (am_cp (u2 dt 18 0 (dt 1 0)) 2 19 0 0 192) 3 20 0 0 8) 4 21 0 0 256) 5 22 0 0 4) 6 23 0 0 2000) 24 3 = (am_cp (am_cp (am_cp (am_cp (u2 dt 18 0 (dt 1 0)) 2 19 0 0 192) 3 20 0 0 8) 4 21 0 0 256) 5 22 0 0 4) 24 3 := rfl
  have w86 : (am_cp (am_cp (am_cp (am_cp (am_cp (u2 dt 18 0 (dt 1 0)) 2 19 0 0 192) 3 20 0 0 8) 4 21 0 0 256) 5 22 0 0 4) 6 23 0 0 2000) 27 3 = (am_cp (am_cp (am_cp (am_cp (u2 dt 18 0 (dt 1 0)) 2 19 0 0 192) 3 20 0 0 8) 4 21 0 0 256) 5 22 0 0 4) 27 3 := rfl
  have w87 : (am_cp (am_cp (am_cp (am_cp (am_cp (u2 dt 18 0 (dt 1 0)) 2 19 0 0 192) 3 20 0 0 8) 4 21 0 0 256) 5 22 0 0 4) 6 23 0 0 2000) 29 3 = (am_cp (am_cp (am_cp (am_cp (u2 dt 18 0 (dt 1 0)) 2 19 0 0 192) 3 20 0 0 8) 4 21 0 0 256) 5 22 0 0 4) 29 3 := rfl
  have w88 : (am_cp (am_cp (am_cp (am_cp (am_cp (u2 dt 18 0 (dt 1 0)) 2 19 0 0 192) 3 20 0 0 8) 4 21 0 0 256) 5 22 0 0 4) 6 23 0 0 2000) 31 3 = (am_cp (am_cp (am_cp (am_cp (u2 dt 18 0 (dt 1 0)) 2 19 0 0 192) 3 20 0 0 8) 4 21 0 0 256) 5 22 0 0 4) 31 3 := rfl
  have w89 : (am_cp (am_cp (am_cp (am_cp (am_cp (u2 dt 18 0 (dt 1 0)) 2 19 0 0 192) 3 20 0 0 8) 4 21 0 0 256) 5 22 0 0 4) 6 23 0 0 2000) 33 3 = (am_cp (am_cp (am_cp (am_cp (u2 dt 18 0 (dt 1 0)) 2 19 0 0 192) 3 20 0 0 8) 4 21 0 0 256) 5 22 0 0 4) 33 3 := rfl
  have w90 : (am_cp (am_cp (am_cp (am_cp (am_cp (u2 dt 18 0 (dt 1 0)) 2 19 0 0 192) 3 20 0 0 8) 4 21 0 0 256) 5 22 0 0 4) 6 23 0 0 2000) 1 0 = (am_cp (am_cp (am_cp (am_cp (u2 dt 18 0 (dt 1 0)) 2 19 0 0 192) 3 20 0 0 8) 4 21 0 0 256) 5 22 0 0 4) 1 0 := rfl
  have w91 : (am_cp (am_cp (am_cp (am_cp (am_cp (u2 dt 18 0 (dt 1 0)) 2 19 0 0 192) 3 20 0 0 8) 4 21 0 0 256) 5 22 0 0 4) 6 23 0 0 2000) 7 3 = (am_cp (am_cp (am_cp (am_cp (u2 dt 18 0 (dt 1 0)) 2 19 0 0 192) 3 20 0 0 8) 4 21 0 0 256) 5 22 0 0 4) 7 3 := rfl
  have w92 : (am_cp (am_cp (am_cp (am_cp (am_cp (u2 dt 18 0 (dt 1 0)) 2 19 0 0 192) 3 20 0 0 8) 4 21 0 0 256) 5 22 0 0 4) 6 23 0 0 2000) 10 3 = (am_cp (am_cp (am_cp (am_cp (u2 dt 18 0 (dt 1 0)) 2 19 0 0 192) 3 20 0 0 8) 4 21 0 0 256) 5 22 0 0 4) 10 3 := rfl
  have w93 : (am_cp (am_cp (am_cp (am_cp (am_cp (u2 dt 18 0 (dt 1 0)) 2 19 0 0 192) 3 20 0 0 8) 4 21 0 0 256) 5 22 0 0 4) 6 23 0 0 2000) 12 3 = (am_cp (am_cp (am_cp (am_cp (u2 dt 18 0 (dt 1 0)) 2 19 0 0 192) 3 20 0 0 8) 4 21 0 0 256) 5 22 0 0 4) 12 3 := rfl
  have w94 : (am_cp (am_cp (am_cp (am_cp (am_cp (u2 dt 18 0 (dt 1 0)) 2 19 0 0 192) 3 20 0 0 8) 4 21 0 0 256) 5 22 0 0 4) 6 23 0 0 2000) 14 3 = (am_cp (am_cp (am_cp (am_cp (u2 dt 18 0 (dt 1 0)) 2 19 0 0 192) 3 20 0 0 8) 4 21 0 0 256) 5 22 0 0 4) 14 3 := rfl
  have w95 : (am_cp (am_cp (am_cp (am_cp (am_cp (u2 dt 18 0 (dt 1 0)) 2 19 0 0 192) 3 20 0 0 8) 4 21 0 0 256) 5 22 0 0 4) 6 23 0 0 2000) 16 3 = (am_cp (am_cp (am_cp (am_cp (u2 dt 18 0 (dt 1 0)) 2 19 0 0 192) 3 20 0 0 8) 4 21 0 0 256) 5 22 0 0 4) 16 3 := rfl
  have T96 : ∀ j : Nat, j < 192 → (am_cp (am_cp (am_cp (am_cp (am_cp (u2 dt 18 0 (dt 1 0)) 2 19 0 0 192) 3 20 0 0 8) 4 21 0 0 256) 5 22 0 0 4) 6 23 0 0 2000) 19 j = dt 2 j := fun j hj => (cp_ne (by decide)).trans (T78 j hj)
  have T97 : ∀ j : Nat, j < 8 → (am_cp (am_cp (am_cp (am_cp (am_cp (u2 dt 18 0 (dt 1 0)) 2 19 0 0 192) 3 20 0 0 8) 4 21 0 0 256) 5 22 0 0 4) 6 23 0 0 2000) 20 j = dt 3 j := fun j hj => (cp_ne (by decide)).trans (T79 j hj)
  have T98 : ∀ j : Nat, j < 256 → (am_cp (am_cp (am_cp (am_cp (am_cp (u2 dt 18 0 (dt 1 0)) 2 19 0 0 192) 3 20 0 0 8) 4 21 0 0 256) 5 22 0 0 4) 6 23 0 0 2000) 21 j = dt 4 j := fun j hj => (cp_ne (by decide)).trans (T80 j hj)
  have T99 : ∀ j : Nat, j < 4 → (am_cp (am_cp (am_cp (am_cp (am_cp (u2 dt 18 0 (dt 1 0)) 2 19 0 0 192) 3 20 0 0 8) 4 21 0 0 256) 5 22 0 0 4) 6 23 0 0 2000) 22 j = dt 5 j := fun j hj => (cp_ne (by decide)).trans (T81 j hj)
  have T100 : ∀ j : Nat, j < 2000 → (am_cp (am_cp (am_cp (am_cp (am_cp (u2 dt 18 0 (dt 1 0)) 2 19 0 0 192) 3 20 0 0 8) 4 21 0 0 256) 5 22 0 0 4) 6 23 0 0 2000) 23 j = dt 6 j := fun j hj => (cp_atv hj).trans (hF65 6 (by decide) j)
  refine go_cpy (L' := [some (.inr (.inr (some 18))), some (.inr (.inr (some 1)))]) (st' := []) (w' := (SH, (am_cp (am_cp (am_cp (am_cp (am_cp (u2 dt 18 0 (dt 1 0)) 2 19 0 0 192) 3 20 0 0 8) 4 21 0 0 256) 5 22 0 0 4) 6 23 0 0 2000))) rfl rfl (s_cpy (n0 := 2000) (n1 := 2000) rfl rfl ⟨⟨by omega, by omega, by omega⟩, by omega, by omega, by decide⟩) ?_
  refine go_to (k := 9) (pc' := 113) (L' := [some (.inr (.inr (some 18))), some (.inr (.inr (some 1)))]) (st' := [.inl 132, .inl 0, .inr (.inr (some 26)), .inl 0, .inr (.inr (some 9))]) (w' := (SH, (am_cp (am_cp (am_cp (am_cp (am_cp (u2 dt 18 0 (dt 1 0)) 2 19 0 0 192) 3 20 0 0 8) 4 21 0 0 256) 5 22 0 0 4) 6 23 0 0 2000))) (fun _ => rfl) ?_
  have hI101 : InvC (am_cp (am_cp (am_cp (am_cp (am_cp (am_cp (u2 dt 18 0 (dt 1 0)) 2 19 0 0 192) 3 20 0 0 8) 4 21 0 0 256) 5 22 0 0 4) 6 23 0 0 2000) 9 26 0 0 132) := InvC_cp hI82 (fun _ _ => rfl) (fun _ _ => rfl) (fun _ => rfl)
  have hF102 : Fr [18, 19, 20, 21, 22, 23, 24, 25, 26, 27, 28, 29, 30, 31, 32, 33, 34] dt (am_cp (am_cp (am_cp (am_cp (am_cp (am_cp (u2 dt 18 0 (dt 1 0)) 2 19 0 0 192) 3 20 0 0 8) 4 21 0 0 256) 5 22 0 0 4) 6 23 0 0 2000) 9 26 0 0 132) := Fr_cp hF83 (by decide)
  have w103 : (am_cp (am_cp (am_cp (am_cp (am_cp (am_cp (u2 dt 18 0 (dt 1 0)) 2 19 0 0 192) 3 20 0 0 8) 4 21 0 0 256) 5 22 0 0 4) 6 23 0 0 2000) 9 26 0 0 132) 18 0 = (am_cp (am_cp (am_cp (am_cp (am_cp (u2 dt 18 0 (dt 1 0)) 2 19 0 0 192) 3 20 0 0 8) 4 21 0 0 256) 5 22 0 0 4) 6 23 0 0 2000) 18 0 := rfl
  have w104 : (am_cp (am_cp (am_cp (am_cp (am_cp (am_cp (u2 dt 18 0 (dt 1 0)) 2 19 0 0 192) 3 20 0 0 8) 4 21 0 0 256) 5 22 0 0 4) 6 23 0 0 2000) 9 26 0 0 132) 24 3 = (am_cp (am_cp (am_cp (am_cp (am_cp (u2 dt 18 0 (dt 1 0)) 2 19 0 0 192) 3 20 0 0 8) 4 21 0 0 256) 5 22 0 0 4) 6 23 0 0 2000) 24 3 := rfl
  have w105 : (am_cp (am_cp (am_cp (am_cp (am_cp (am_cp (u2 dt 18 0 (dt 1 0)) 2 19 0 0 192) 3 20 0 0 8) 4 21 0 0 256) 5 22 0 0 4) 6 23 0 0 2000) 9 26 0 0 132) 27 3 = (am_cp (am_cp (am_cp (am_cp (am_cp (u2 dt 18 0 (dt 1 0)) 2 19 0 0 192) 3 20 0 0 8) 4 21 0 0 256) 5 22 0 0 4) 6 23 0 0 2000) 27 3 := rfl
  have w106 : (am_cp (am_cp (am_cp (am_cp (am_cp (am_cp (u2 dt 18 0 (dt 1 0)) 2 19 0 0 192) 3 20 0 0 8) 4 21 0 0 256) 5 22 0 0 4) 6 23 0 0 2000) 9 26 0 0 132) 29 3 = (am_cp (am_cp (am_cp (am_cp (am_cp (u2 dt 18 0 (dt 1 0)) 2 19 0 0 192) 3 20 0 0 8) 4 21 0 0 256) 5 22 0 0 4) 6 23 0 0 2000) 29 3 := rfl
  have w107 : (am_cp (am_cp (am_cp (am_cp (am_cp (am_cp (u2 dt 18 0 (dt 1 0)) 2 19 0 0 192) 3 20 0 0 8) 4 21 0 0 256) 5 22 0 0 4) 6 23 0 0 2000) 9 26 0 0 132) 31 3 = (am_cp (am_cp (am_cp (am_cp (am_cp (u2 dt 18 0 (dt 1 0)) 2 19 0 0 192) 3 20 0 0 8) 4 21 0 0 256) 5 22 0 0 4) 6 23 0 0 2000) 31 3 := rfl
  have w108 : (am_cp (am_cp (am_cp (am_cp (am_cp (am_cp (u2 dt 18 0 (dt 1 0)) 2 19 0 0 192) 3 20 0 0 8) 4 21 0 0 256) 5 22 0 0 4) 6 23 0 0 2000) 9 26 0 0 132) 33 3 = (am_cp (am_cp (am_cp (am_cp (am_cp (u2 dt 18 0 (dt 1 0)) 2 19 0 0 192) 3 20 0 0 8) 4 21 0 0 256) 5 22 0 0 4) 6 23 0 0 2000) 33 3 := rfl
  have w109 : (am_cp (am_cp (am_cp (am_cp (am_cp (am_cp (u2 dt 18 0 (dt 1 0)) 2 19 0 0 192) 3 20 0 0 8) 4 21 0 0 256) 5 22 0 0 4) 6 23 0 0 2000) 9 26 0 0 132) 1 0 = (am_cp (am_cp (am_cp (am_cp (am_cp (u2 dt 18 0 (dt 1 0)) 2 19 0 0 192) 3 20 0 0 8) 4 21 0 0 256) 5 22 0 0 4) 6 23 0 0 2000) 1 0 := rfl
  have w110 : (am_cp (am_cp (am_cp (am_cp (am_cp (am_cp (u2 dt 18 0 (dt 1 0)) 2 19 0 0 192) 3 20 0 0 8) 4 21 0 0 256) 5 22 0 0 4) 6 23 0 0 2000) 9 26 0 0 132) 7 3 = (am_cp (am_cp (am_cp (am_cp (am_cp (u2 dt 18 0 (dt 1 0)) 2 19 0 0 192) 3 20 0 0 8) 4 21 0 0 256) 5 22 0 0 4) 6 23 0 0 2000) 7 3 := rfl
  have w111 : (am_cp (am_cp (am_cp (am_cp (am_cp (am_cp (u2 dt 18 0 (dt 1 0)) 2 19 0 0 192) 3 20 0 0 8) 4 21 0 0 256) 5 22 0 0 4) 6 23 0 0 2000) 9 26 0 0 132) 10 3 = (am_cp (am_cp (am_cp (am_cp (am_cp (u2 dt 18 0 (dt 1 0)) 2 19 0 0 192) 3 20 0 0 8) 4 21 0 0 256) 5 22 0 0 4) 6 23 0 0 2000) 10 3 := rfl
  have w112 : (am_cp (am_cp (am_cp (am_cp (am_cp (am_cp (u2 dt 18 0 (dt 1 0)) 2 19 0 0 192) 3 20 0 0 8) 4 21 0 0 256) 5 22 0 0 4) 6 23 0 0 2000) 9 26 0 0 132) 12 3 = (am_cp (am_cp (am_cp (am_cp (am_cp (u2 dt 18 0 (dt 1 0)) 2 19 0 0 192) 3 20 0 0 8) 4 21 0 0 256) 5 22 0 0 4) 6 23 0 0 2000) 12 3 := rfl
  have w113 : (am_cp (am_cp (am_cp (am_cp (am_cp (am_cp (u2 dt 18 0 (dt 1 0)) 2 19 0 0 192) 3 20 0 0 8) 4 21 0 0 256) 5 22 0 0 4) 6 23 0 0 2000) 9 26 0 0 132) 14 3 = (am_cp (am_cp (am_cp (am_cp (am_cp (u2 dt 18 0 (dt 1 0)) 2 19 0 0 192) 3 20 0 0 8) 4 21 0 0 256) 5 22 0 0 4) 6 23 0 0 2000) 14 3 := rfl
  have w114 : (am_cp (am_cp (am_cp (am_cp (am_cp (am_cp (u2 dt 18 0 (dt 1 0)) 2 19 0 0 192) 3 20 0 0 8) 4 21 0 0 256) 5 22 0 0 4) 6 23 0 0 2000) 9 26 0 0 132) 16 3 = (am_cp (am_cp (am_cp (am_cp (am_cp (u2 dt 18 0 (dt 1 0)) 2 19 0 0 192) 3 20 0 0 8) 4 21 0 0 256) 5 22 0 0 4) 6 23 0 0 2000) 16 3 := rfl
  have T115 : ∀ j : Nat, j < 192 → (am_cp (am_cp (am_cp (am_cp (am_cp (am_cp (u2 dt 18 0 (dt 1 0)) 2 19 0 0 192) 3 20 0 0 8) 4 21 0 0 256) 5 22 0 0 4) 6 23 0 0 2000) 9 26 0 0 132) 19 j = dt 2 j := fun j hj => (cp_ne (by decide)).trans (T96 j hj)
  have T116 : ∀ j : Nat, j < 8 → (am_cp (am_cp (am_cp (am_cp (am_cp (am_cp (u2 dt 18 0 (dt 1 0)) 2 19 0 0 192) 3 20 0 0 8) 4 21 0 0 256) 5 22 0 0 4) 6 23 0 0 2000) 9 26 0 0 132) 20 j = dt 3 j := fun j hj => (cp_ne (by decide)).trans (T97 j hj)
  have T117 : ∀ j : Nat, j < 256 → (am_cp (am_cp (am_cp (am_cp (am_cp (am_cp (u2 dt 18 0 (dt 1 0)) 2 19 0 0 192) 3 20 0 0 8) 4 21 0 0 256) 5 22 0 0 4) 6 23 0 0 2000) 9 26 0 0 132) 21 j = dt 4 j := fun j hj => (cp_ne (by decide)).trans (T98 j hj)
  have T118 : ∀ j : Nat, j < 4 → (am_cp (am_cp (am_cp (am_cp (am_cp (am_cp (u2 dt 18 0 (dt 1 0)) 2 19 0 0 192) 3 20 0 0 8) 4 21 0 0 256) 5 22 0 0 4) 6 23 0 0 2000) 9 26 0 0 132) 22 j = dt 5 j := fun j hj => (cp_ne (by decide)).trans (T99 j hj)
  have T119 : ∀ j : Nat, j < 2000 → (am_cp (am_cp (am_cp (am_cp (am_cp (am_cp (u2 dt 18 0 (dt 1 0)) 2 19 0 0 192) 3 20 0 0 8) 4 21 0 0 256) 5 22 0 0 4) 6 23 0 0 2000) 9 26 0 0 132) 23 j = dt 6 j := fun j hj => (cp_ne (by decide)).trans (T100 j hj)
  have T120 : ∀ j : Nat, j < 132 → (am_cp (am_cp (am_cp (am_cp (am_cp (am_cp (u2 dt 18 0 (dt 1 0)) 2 19 0 0 192) 3 20 0 0 8) 4 21 0 0 256) 5 22 0 0 4) 6 23 0 0 2000) 9 26 0 0 132) 26 j = dt 9 j := fun j hj => (cp_atv hj).trans (hF83 9 (by decide) j)
  refine go_cpy (L' := [some (.inr (.inr (some 18))), some (.inr (.inr (some 1)))]) (st' := []) (w' := (SH, (am_cp (am_cp (am_cp (am_cp (am_cp (am_cp (u2 dt 18 0 (dt 1 0)) 2 19 0 0 192) 3 20 0 0 8) 4 21 0 0 256) 5 22 0 0 4) 6 23 0 0 2000) 9 26 0 0 132))) rfl rfl (s_cpy (n0 := 132) (n1 := 132) rfl rfl ⟨⟨by omega, by omega, by omega⟩, by omega, by omega, by decide⟩) ?_
  refine go_to (k := 4) (pc' := 124) (L' := [some (.inr (.inr (some 18))), some (.inr (.inr (some 1)))]) (st' := [.inr (.inr (some 7)), .inr (.inr (some 24))]) (w' := (SH, (am_cp (am_cp (am_cp (am_cp (am_cp (am_cp (u2 dt 18 0 (dt 1 0)) 2 19 0 0 192) 3 20 0 0 8) 4 21 0 0 256) 5 22 0 0 4) 6 23 0 0 2000) 9 26 0 0 132))) (fun _ => rfl) ?_
  refine go_call (Q' := _) rfl rfl rfl rfl rfl (sp_X2_copyFrom_24f L xs sio (d + 0) (am_cp (am_cp (am_cp (am_cp (am_cp (am_cp (u2 dt 18 0 (dt 1 0)) 2 19 0 0 192) 3 20 0 0 8) 4 21 0 0 256) 5 22 0 0 4) 6 23 0 0 2000) 9 26 0 0 132) hI101   ) ?_
  rintro _ _ ⟨dt122, rfl, hI123, hF124, h121⟩
  refine ⟨rfl, ?_⟩
  have hF125 : Fr [18, 19, 20, 21, 22, 23, 24, 25, 26, 27, 28, 29, 30, 31, 32, 33, 34] dt dt122 := Fr_tr hF102 hF124 (by decide)
  have w126 : dt122 18 0 = (am_cp (am_cp (am_cp (am_cp (am_cp (am_cp (u2 dt 18 0 (dt 1 0)) 2 19 0 0 192) 3 20 0 0 8) 4 21 0 0 256) 5 22 0 0 4) 6 23 0 0 2000) 9 26 0 0 132) 18 0 := hF124 18 (by decide) 0
  have w127 : dt122 27 3 = (am_cp (am_cp (am_cp (am_cp (am_cp (am_cp (u2 dt 18 0 (dt 1 0)) 2 19 0 0 192) 3 20 0 0 8) 4 21 0 0 256) 5 22 0 0 4) 6 23 0 0 2000) 9 26 0 0 132) 27 3 := hF124 27 (by decide) 3
  have w128 : dt122 29 3 = (am_cp (am_cp (am_cp (am_cp (am_cp (am_cp (u2 dt 18 0 (dt 1 0)) 2 19 0 0 192) 3 20 0 0 8) 4 21 0 0 256) 5 22 0 0 4) 6 23 0 0 2000) 9 26 0 0 132) 29 3 := hF124 29 (by decide) 3
  have w129 : dt122 31 3 = (am_cp (am_cp (am_cp (am_cp (am_cp (am_cp (u2 dt 18 0 (dt 1 0)) 2 19 0 0 192) 3 20 0 0 8) 4 21 0 0 256) 5 22 0 0 4) 6 23 0 0 2000) 9 26 0 0 132) 31 3 := hF124 31 (by decide) 3
  have w130 : dt122 33 3 = (am_cp (am_cp (am_cp (am_cp (am_cp (am_cp (u2 dt 18 0 (dt 1 0)) 2 19 0 0 192) 3 20 0 0 8) 4 21 0 0 256) 5 22 0 0 4) 6 23 0 0 2000) 9 26 0 0 132) 33 3 := hF124 33 (by decide) 3
  have w131 : dt122 1 0 = (am_cp (am_cp (am_cp (am_cp (am_cp (am_cp (u2 dt 18 0 (dt 1 0)) 2 19 0 0 192) 3 20 0 0 8) 4 21 0 0 256) 5 22 0 0 4) 6 23 0 0 2000) 9 26 0 0 132) 1 0 := hF124 1 (by decide) 0
  have w132 : dt122 7 3 = (am_cp (am_cp (am_cp (am_cp (am_cp (am_cp (u2 dt 18 0 (dt 1 0)) 2 19 0 0 192) 3 20 0 0 8) 4 21 0 0 256) 5 22 0 0 4) 6 23 0 0 2000) 9 26 0 0 132) 7 3 := hF124 7 (by decide) 3
  have w133 : dt122 10 3 = (am_cp (am_cp (am_cp (am_cp (am_cp (am_cp (u2 dt 18 0 (dt 1 0)) 2 19 0 0 192) 3 20 0 0 8) 4 21 0 0 256) 5 22 0 0 4) 6 23 0 0 2000) 9 26 0 0 132) 10 3 := hF124 10 (by decide) 3
  have w134 : dt122 12 3 = (am_cp (am_cp (am_cp (am_cp (am_cp (am_cp (u2 dt 18 0 (dt 1 0)) 2 19 0 0 192) 3 20 0 0 8) 4 21 0 0 256) 5 22 0 0 4) 6 23 0 0 2000) 9 26 0 0 132) 12 3 := hF124 12 (by decide) 3
  have w135 : dt122 14 3 = (am_cp (am_cp (am_cp (am_cp (am_cp (am_cp (u2 dt 18 0 (dt 1 0)) 2 19 0 0 192) 3 20 0 0 8) 4 21 0 0 256) 5 22 0 0 4) 6 23 0 0 2000) 9 26 0 0 132) 14 3 := hF124 14 (by decide) 3
  have w136 : dt122 16 3 = (am_cp (am_cp (am_cp (am_cp (am_cp (am_cp (u2 dt 18 0 (dt 1 0)) 2 19 0 0 192) 3 20 0 0 8) 4 21 0 0 256) 5 22 0 0 4) 6 23 0 0 2000) 9 26 0 0 132) 16 3 := hF124 16 (by decide) 3
  rcases h121 with ⟨rfl, h121⟩
  obtain ⟨h121_0, h121_1⟩ := h121
  have T137 : ∀ j : Nat, j < 192 → dt122 19 j = dt 2 j := fun j hj => (hF124 19 (by decide) j).trans (T115 j hj)
  have T138 : ∀ j : Nat, j < 8 → dt122 20 j = dt 3 j := fun j hj => (hF124 20 (by decide) j).trans (T116 j hj)
  have T139 : ∀ j : Nat, j < 256 → dt122 21 j = dt 4 j := fun j hj => (hF124 21 (by decide) j).trans (T117 j hj)
  have T140 : ∀ j : Nat, j < 4 → dt122 22 j = dt 5 j := fun j hj => (hF124 22 (by decide) j).trans (T118 j hj)
  have T141 : ∀ j : Nat, j < 2000 → dt122 23 j = dt 6 j := fun j hj => (hF124 23 (by decide) j).trans (T119 j hj)
  have T142 : ∀ j : Nat, j < 60 → dt122 25 j = dt 8 j := fun j hj => (h121_1 j hj).trans (hF125 8 (by decide) j)
  have T143 : ∀ j : Nat, j < 132 → dt122 26 j = dt 9 j := fun j hj => (hF124 26 (by decide) j).trans (T120 j hj)
  refine go_to (k := 4) (pc' := 135) (L' := [some (.inr (.inr (some 18))), some (.inr (.inr (some 1)))]) (st' := [.inr (.inr (some 10)), .inr (.inr (some 27))]) (w' := (SH, dt122)) (fun _ => rfl) ?_
  refine go_call (Q' := _) rfl rfl rfl rfl rfl (sp_X2_copyFrom_27f L xs sio (d + 0) dt122 hI123   ) ?_
  rintro _ _ ⟨dt145, rfl, hI146, hF147, h144⟩
  refine ⟨rfl, ?_⟩
  have hF148 : Fr [18, 19, 20, 21, 22, 23, 24, 25, 26, 27, 28, 29, 30, 31, 32, 33, 34] dt dt145 := Fr_tr hF125 hF147 (by decide)
  have w149 : dt145 18 0 = dt122 18 0 := hF147 18 (by decide) 0
  have w150 : dt145 24 3 = dt122 24 3 := hF147 24 (by decide) 3
  have w151 : dt145 29 3 = dt122 29 3 := hF147 29 (by decide) 3
  have w152 : dt145 31 3 = dt122 31 3 := hF147 31 (by decide) 3
  have w153 : dt145 33 3 = dt122 33 3 := hF147 33 (by decide) 3
  have w154 : dt145 1 0 = dt122 1 0 := hF147 1 (by decide) 0
  have w155 : dt145 7 3 = dt122 7 3 := hF147 7 (by decide) 3
  have w156 : dt145 10 3 = dt122 10 3 := hF147 10 (by decide) 3
  have w157 : dt145 12 3 = dt122 12 3 := hF147 12 (by decide) 3
  have w158 : dt145 14 3 = dt122 14 3 := hF147 14 (by decide) 3
  have w159 : dt145 16 3 = dt122 16 3 := hF147 16 (by decide) 3
  rcases h144 with ⟨rfl, h144⟩
  obtain ⟨h144_0, h144_1⟩ := h144
  have T160 : ∀ j : Nat, j < 192 → dt145 19 j = dt 2 j := fun j hj => (hF147 19 (by decide) j).trans (T137 j hj)
  have T161 : ∀ j : Nat, j < 8 → dt145 20 j = dt 3 j := fun j hj => (hF147 20 (by decide) j).trans (T138 j hj)
  have T162 : ∀ j : Nat, j < 256 → dt145 21 j = dt 4 j := fun j hj => (hF147 21 (by decide) j).trans (T139 j hj)
  have T163 : ∀ j : Nat, j < 4 → dt145 22 j = dt 5 j := fun j hj => (hF147 22 (by decide) j).trans (T140 j hj)
  have T164 : ∀ j : Nat, j < 2000 → dt145 23 j = dt 6 j := fun j hj => (hF147 23 (by decide) j).trans (T141 j hj)
  have T165 : ∀ j : Nat, j < 60 → dt145 25 j = dt 8 j := fun j hj => (hF147 25 (by decide) j).trans (T142 j hj)
  have T166 : ∀ j : Nat, j < 132 → dt145 26 j = dt 9 j := fun j hj => (hF147 26 (by decide) j).trans (T143 j hj)
  have T167 : ∀ j : Nat, j < 160 → dt145 28 j = dt 11 j := fun j hj => (h144_1 j hj).trans (hF125 11 (by decide) j)
  refine go_to (k := 4) (pc' := 146) (L' := [some (.inr (.inr (some 18))), some (.inr (.inr (some 1)))]) (st' := [.inr (.inr (some 12)), .inr (.inr (some 29))]) (w' := (SH, dt145)) (fun _ => rfl) ?_
  refine go_call (Q' := _) rfl rfl rfl rfl rfl (sp_X2_copyFrom_29 L xs sio (d + 0) dt145 hI146   ) ?_
  rintro _ _ ⟨dt169, rfl, hI170, hF171, h168⟩
  refine ⟨rfl, ?_⟩
  have hF172 : Fr [18, 19, 20, 21, 22, 23, 24, 25, 26, 27, 28, 29, 30, 31, 32, 33, 34] dt dt169 := Fr_tr hF148 hF171 (by decide)
  have w173 : dt169 18 0 = dt145 18 0 := hF171 18 (by decide) 0
  have w174 : dt169 24 3 = dt145 24 3 := hF171 24 (by decide) 3
  have w175 : dt169 27 3 = dt145 27 3 := hF171 27 (by decide) 3
  have w176 : dt169 31 3 = dt145 31 3 := hF171 31 (by decide) 3
  have w177 : dt169 33 3 = dt145 33 3 := hF171 33 (by decide) 3
  have w178 : dt169 1 0 = dt145 1 0 := hF171 1 (by decide) 0
  have w179 : dt169 7 3 = dt145 7 3 := hF171 7 (by decide) 3
  have w180 : dt169 10 3 = dt145 10 3 := hF171 10 (by decide) 3
  have w181 : dt169 12 3 = dt145 12 3 := hF171 12 (by decide) 3
  have w182 : dt169 14 3 = dt145 14 3 := hF171 14 (by decide) 3
  have w183 : dt169 16 3 = dt145 16 3 := hF171 16 (by decide) 3
  rcases h168 with ⟨rfl, h168⟩
  have T184 : ∀ j : Nat, j < 192 → dt169 19 j = dt 2 j := fun j hj => (hF171 19 (by decide) j).trans (T160 j hj)
  have T185 : ∀ j : Nat, j < 8 → dt169 20 j = dt 3 j := fun j hj => (hF171 20 (by decide) j).trans (T161 j hj)
  have T186 : ∀ j : Nat, j < 256 → dt169 21 j = dt 4 j := fun j hj => (hF171 21 (by decide) j).trans (T162 j hj)
  have T187 : ∀ j : Nat, j < 4 → dt169 22 j = dt 5 j := fun j hj => (hF171 22 (by decide) j).trans (T163 j hj)
  have T188 : ∀ j : Nat, j < 2000 → dt169 23 j = dt 6 j := fun j hj => (hF171 23 (by decide) j).trans (T164 j hj)
  have T189 : ∀ j : Nat, j < 60 → dt169 25 j = dt 8 j := fun j hj => (hF171 25 (by decide) j).trans (T165 j hj)
  have T190 : ∀ j : Nat, j < 132 → dt169 26 j = dt 9 j := fun j hj => (hF171 26 (by decide) j).trans (T166 j hj)
  have T191 : ∀ j : Nat, j < 160 → dt169 28 j = dt 11 j := fun j hj => (hF171 28 (by decide) j).trans (T167 j hj)
  refine go_to (k := 4) (pc' := 157) (L' := [some (.inr (.inr (some 18))), some (.inr (.inr (some 1)))]) (st' := [.inr (.inr (some 14)), .inr (.inr (some 31))]) (w' := (SH, dt169)) (fun _ => rfl) ?_
  refine go_call (Q' := _) rfl rfl rfl rfl rfl (sp_X2_copyFrom_31 L xs sio (d + 0) dt169 hI170   ) ?_
  rintro _ _ ⟨dt193, rfl, hI194, hF195, h192⟩
  refine ⟨rfl, ?_⟩
  have hF196 : Fr [18, 19, 20, 21, 22, 23, 24, 25, 26, 27, 28, 29, 30, 31, 32, 33, 34] dt dt193 := Fr_tr hF172 hF195 (by decide)
  have w197 : dt193 18 0 = dt169 18 0 := hF195 18 (by decide) 0
  have w198 : dt193 24 3 = dt169 24 3 := hF195 24 (by decide) 3
  have w199 : dt193 27 3 = dt169 27 3 := hF195 27 (by decide) 3
  have w200 : dt193 29 3 = dt169 29 3 := hF195 29 (by decide) 3
  have w201 : dt193 33 3 = dt169 33 3 := hF195 33 (by decide) 3
  have w202 : dt193 1 0 = dt169 1 0 := hF195 1 (by decide) 0
  have w203 : dt193 7 3 = dt169 7 3 := hF195 7 (by decide) 3
  have w204 : dt193 10 3 = dt169 10 3 := hF195 10 (by decide) 3
  have w205 : dt193 12 3 = dt169 12 3 := hF195 12 (by decide) 3
  have w206 : dt193 14 3 = dt169 14 3 := hF195 14 (by decide) 3
  have w207 : dt193 16 3 = dt169 16 3 := hF195 16 (by decide) 3
  rcases h192 with ⟨rfl, h192⟩
  have T208 : ∀ j : Nat, j < 192 → dt193 19 j = dt 2 j := fun j hj => (hF195 19 (by decide) j).trans (T184 j hj)
  have T209 : ∀ j : Nat, j < 8 → dt193 20 j = dt 3 j := fun j hj => (hF195 20 (by decide) j).trans (T185 j hj)
  have T210 : ∀ j : Nat, j < 256 → dt193 21 j = dt 4 j := fun j hj => (hF195 21 (by decide) j).trans (T186 j hj)
  have T211 : ∀ j : Nat, j < 4 → dt193 22 j = dt 5 j := fun j hj => (hF195 22 (by decide) j).trans (T187 j hj)
  have T212 : ∀ j : Nat, j < 2000 → dt193 23 j = dt 6 j := fun j hj => (hF195 23 (by decide) j).trans (T188 j hj)
  have T213 : ∀ j : Nat, j < 60 → dt193 25 j = dt 8 j := fun j hj => (hF195 25 (by decide) j).trans (T189 j hj)
  have T214 : ∀ j : Nat, j < 132 → dt193 26 j = dt 9 j := fun j hj => (hF195 26 (by decide) j).trans (T190 j hj)
  have T215 : ∀ j : Nat, j < 160 → dt193 28 j = dt 11 j := fun j hj => (hF195 28 (by decide) j).trans (T191 j hj)
  refine go_to (k := 4) (pc' := 168) (L' := [some (.inr (.inr (some 18))), some (.inr (.inr (some 1)))]) (st' := [.inr (.inr (some 16)), .inr (.inr (some 33))]) (w' := (SH, dt193)) (fun _ => rfl) ?_
  refine go_call (Q' := _) rfl rfl rfl rfl rfl (sp_X2_copyFrom_33 L xs sio (d + 0) dt193 hI194   ) ?_
  rintro _ _ ⟨dt217, rfl, hI218, hF219, h216⟩
  refine ⟨rfl, ?_⟩
  have hF220 : Fr [18, 19, 20, 21, 22, 23, 24, 25, 26, 27, 28, 29, 30, 31, 32, 33, 34] dt dt217 := Fr_tr hF196 hF219 (by decide)
  have w221 : dt217 18 0 = dt193 18 0 := hF219 18 (by decide) 0
  have w222 : dt217 24 3 = dt193 24 3 := hF219 24 (by decide) 3
  have w223 : dt217 27 3 = dt193 27 3 := hF219 27 (by decide) 3
  have w224 : dt217 29 3 = dt193 29 3 := hF219 29 (by decide) 3
  have w225 : dt217 31 3 = dt193 31 3 := hF219 31 (by decide) 3
  have w226 : dt217 1 0 = dt193 1 0 := hF219 1 (by decide) 0
  have w227 : dt217 7 3 = dt193 7 3 := hF219 7 (by decide) 3
  have w228 : dt217 10 3 = dt193 10 3 := hF219 10 (by decide) 3
  have w229 : dt217 12 3 = dt193 12 3 := hF219 12 (by decide) 3
  have w230 : dt217 14 3 = dt193 14 3 := hF219 14 (by decide) 3
  have w231 : dt217 16 3 = dt193 16 3 := hF219 16 (by decide) 3
  rcases h216 with ⟨rfl, h216⟩
  have T232 : ∀ j : Nat, j < 192 → dt217 19 j = dt 2 j := fun j hj => (hF219 19 (by decide) j).trans (T208 j hj)
  have T233 : ∀ j : Nat, j < 8 → dt217 20 j = dt 3 j := fun j hj => (hF219 20 (by decide) j).trans (T209 j hj)
  have T234 : ∀ j : Nat, j < 256 → dt217 21 j = dt 4 j := fun j hj => (hF219 21 (by decide) j).trans (T210 j hj)
  have T235 : ∀ j : Nat, j < 4 → dt217 22 j = dt 5 j := fun j hj => (hF219 22 (by decide) j).trans (T211 j hj)
  have T236 : ∀ j : Nat, j < 2000 → dt217 23 j = dt 6 j := fun j hj => (hF219 23 (by decide) j).trans (T212 j hj)
  have T237 : ∀ j : Nat, j < 60 → dt217 25 j = dt 8 j := fun j hj => (hF219 25 (by decide) j).trans (T213 j hj)
  have T238 : ∀ j : Nat, j < 132 → dt217 26 j = dt 9 j := fun j hj => (hF219 26 (by decide) j).trans (T214 j hj)
  have T239 : ∀ j : Nat, j < 160 → dt217 28 j = dt 11 j := fun j hj => (hF219 28 (by decide) j).trans (T215 j hj)
  refine go_ret (k := 1) (r := none) (w1 := (SH, dt217)) (fun _ => rfl) ?_
  exact ⟨dt217, rfl, hI218, hF220, ⟨rfl, ⟨by first | trivial | omega, by first | trivial | omega, by first | trivial | omega, by first | trivial | omega, by first | trivial | omega, by first | trivial | omega, by exact T232, by exact T233, by exact T234, by exact T235, by exact T236, by exact T237, by exact T238, by exact T239⟩⟩⟩
theorem chk_sp_X5_image_1w (L : Nat) (xs : Nat → Int32) (sio : Option Nat) (d : Nat) (dt : Nat → Nat → Int) (hI : InvC dt)    : GO (am_XX L xs sio) (d + 3) 98 0 [some (.inr (.inr (some 0))), some (.inl 1)] [] (SH, dt) (fun r w2 => ∃ dt2 : Nat → Nat → Int, w2 = (SH, dt2) ∧ InvC dt2 ∧ Fr [0, 18, 19, 20, 21, 22, 23, 24, 25, 26, 27, 28, 29, 30, 31, 32, 33, 34] dt dt2 ∧ ((∃ v : Int, r = some (.inl v) ∧ (0 ≤ v ∧ v ≤ 1) ∧ (v = 1) ∧ (dt2 0 2 = 1) ∧ (dt2 1 0 = dt 1 0) ∧ (dt2 7 3 = dt 7 3) ∧ (dt2 10 3 = dt 10 3) ∧ (dt2 12 3 = dt 12 3) ∧ (dt2 14 3 = dt 14 3) ∧ (dt2 16 3 = dt 16 3) ∧ (dt2 18 0 = dt 1 0) ∧ (dt2 24 3 = dt 7 3) ∧ (dt2 27 3 = dt 10 3) ∧ (dt2 29 3 = dt 12 3) ∧ (dt2 31 3 = dt 14 3) ∧ (dt2 33 3 = dt 16 3) ∧ (∀ j : Nat, j < 192 → dt2 2 j = dt 2 j) ∧ (∀ j : Nat, j < 8 → dt2 3 j = dt 3 j) ∧ (∀ j : Nat, j < 256 → dt2 4 j = dt 4 j) ∧ (∀ j : Nat, j < 4 → dt2 5 j = dt 5 j) ∧ (∀ j : Nat, j < 2000 → dt2 6 j = dt 6 j) ∧ (∀ j : Nat, j < 60 → dt2 8 j = dt 8 j) ∧ (∀ j : Nat, j < 132 → dt2 9 j = dt 9 j) ∧ (∀ j : Nat, j < 160 → dt2 11 j = dt 11 j) ∧ (∀ j : Nat, j < 192 → dt2 19 j = dt 2 j) ∧ (∀ j : Nat, j < 8 → dt2 20 j = dt 3 j) ∧ (∀ j : Nat, j < 256 → dt2 21 j = dt 4 j) ∧ (∀ j : Nat, j < 4 → dt2 22 j = dt 5 j) ∧ (∀ j : Nat, j < 2000 → dt2 23 j = dt 6 j) ∧ (∀ j : Nat, j < 60 → dt2 25 j = dt 8 j) ∧ (∀ j : Nat, j < 132 → dt2 26 j = dt 9 j) ∧ (∀ j : Nat, j < 160 → dt2 28 j = dt 11 j)))) := by
  have hF : Fr [0, 18, 19, 20, 21, 22, 23, 24, 25, 26, 27, 28, 29, 30, 31, 32, 33, 34] dt dt := Fr_refl
  have r1 : 0 ≤ dt 0 2 ∧ dt 0 2 ≤ 1 := InvC_get hI 0 2 rfl rfl
  refine go_to (k := 6) (pc' := 12) (L' := [some (.inr (.inr (some 0))), some (.inl 1)]) (st' := [.inr (.inr (some 1)), .inr (.inr (some 18))]) (w' := (SH, dt)) (fun _ => rfl) ?_
  refine go_call (Q' := _) rfl rfl rfl rfl rfl (sp_X0_copyFrom_18w L xs sio (d + 0) dt hI   ) ?_
  rintro _ _ ⟨dt3, rfl, hI4, hF5, h2⟩
  refine ⟨rfl, ?_⟩
  have hF6 : Fr [0, 18, 19, 20, 21, 22, 23, 24, 25, 26, 27, 28, 29, 30, 31, 32, 33, 34] dt dt3 := Fr_tr hF hF5 (by decide)
  have w7 : dt3 0 2 = dt 0 2 := hF5 0 (by decide) 2
  have w8 : dt3 1 0 = dt 1 0 := hF5 1 (by decide) 0
  have w9 : dt3 7 3 = dt 7 3 := hF5 7 (by decide) 3
  have w10 : dt3 10 3 = dt 10 3 := hF5 10 (by decide) 3
  have w11 : dt3 12 3 = dt 12 3 := hF5 12 (by decide) 3
  have w12 : dt3 14 3 = dt 14 3 := hF5 14 (by decide) 3
  have w13 : dt3 16 3 = dt 16 3 := hF5 16 (by decide) 3
  rcases h2 with ⟨rfl, h2⟩
  obtain ⟨h2_0, h2_1, h2_2, h2_3, h2_4, h2_5, h2_6, h2_7, h2_8, h2_9, h2_10, h2_11, h2_12, h2_13⟩ := h2
  refine go_to (k := 2) (pc' := 17) (L' := [some (.inr (.inr (some 0))), some (.inl 1)]) (st' := [.inl 1, .inr (.inr (some 0))]) (w' := (SH, dt3)) (fun _ => rfl) ?_
  have hI14 : InvC (u2 dt3 0 2 1) := InvC_u2 hI4 (lo := 0) (hi := 1) rfl rfl rfl (by omega) (by omega)
  have hF15 : Fr [0, 18, 19, 20, 21, 22, 23, 24, 25, 26, 27, 28, 29, 30, 31, 32, 33, 34] dt (u2 dt3 0 2 1) := Fr_u2 hF6 (by decide)
  have w16 : (u2 dt3 0 2 1) 0 2 = 1 := rfl
  have w17 : (u2 dt3 0 2 1) 1 0 = dt3 1 0 := rfl
  have w18 : (u2 dt3 0 2 1) 7 3 = dt3 7 3 := rfl
  have w19 : (u2 dt3 0 2 1) 10 3 = dt3 10 3 := rfl
  have w20 : (u2 dt3 0 2 1) 12 3 = dt3 12 3 := rfl
  have w21 : (u2 dt3 0 2 1) 14 3 = dt3 14 3 := rfl
  have w22 : (u2 dt3 0 2 1) 16 3 = dt3 16 3 := rfl
  have w23 : (u2 dt3 0 2 1) 18 0 = dt3 18 0 := rfl
  have w24 : (u2 dt3 0 2 1) 24 3 = dt3 24 3 := rfl
  have w25 : (u2 dt3 0 2 1) 27 3 = dt3 27 3 := rfl
  have w26 : (u2 dt3 0 2 1) 29 3 = dt3 29 3 := rfl
  have w27 : (u2 dt3 0 2 1) 31 3 = dt3 31 3 := rfl
  have w28 : (u2 dt3 0 2 1) 33 3 = dt3 33 3 := rfl
  refine go_smp (L' := [some (.inr (.inr (some 0))), some (.inl 1)]) (st' := []) (w' := (SH, (u2 dt3 0 2 1))) rfl rfl (s_pfz rfl rfl rfl rfl (by omega)) ?_
  refine go_ret (k := 4) (r := some (.inl 1)) (w1 := (SH, (u2 dt3 0 2 1))) (fun _ => rfl) ?_
  exact ⟨(u2 dt3 0 2 1), rfl, hI14, hF15, ⟨_, rfl, ⟨by omega, by omega⟩, ⟨by first | trivial | omega, by first | trivial | omega, by first | trivial | omega, by first | trivial | omega, by first | trivial | omega, by first | trivial | omega, by first | trivial | omega, by first | trivial | omega, by first | trivial | omega, by first | trivial | omega, by first | trivial | omega, by first | trivial | omega, by first | trivial | omega, by first | trivial | omega, by first | exact fun _ _ => rfl | exact hI | exact fun j _ => hF5 2 (by decide) j, by first | exact fun _ _ => rfl | exact hI | exact fun j _ => hF5 3 (by decide) j, by first | exact fun _ _ => rfl | exact hI | exact fun j _ => hF5 4 (by decide) j, by first | exact fun _ _ => rfl | exact hI | exact fun j _ => hF5 5 (by decide) j, by first | exact fun _ _ => rfl | exact hI | exact fun j _ => hF5 6 (by decide) j, by first | exact fun _ _ => rfl | exact hI | exact fun j _ => hF5 8 (by decide) j, by first | exact fun _ _ => rfl | exact hI | exact fun j _ => hF5 9 (by decide) j, by first | exact fun _ _ => rfl | exact hI | exact fun j _ => hF5 11 (by decide) j, by first | exact fun _ _ => rfl | exact h2_6 | exact fun j _ => hF5 19 (by decide) j, by first | exact fun _ _ => rfl | exact h2_7 | exact fun j _ => hF5 20 (by decide) j, by first | exact fun _ _ => rfl | exact h2_8 | exact fun j _ => hF5 21 (by decide) j, by first | exact fun _ _ => rfl | exact h2_9 | exact fun j _ => hF5 22 (by decide) j, by first | exact fun _ _ => rfl | exact h2_10 | exact fun j _ => hF5 23 (by decide) j, by first | exact fun _ _ => rfl | exact h2_11 | exact fun j _ => hF5 25 (by decide) j, by first | exact fun _ _ => rfl | exact h2_12 | exact fun j _ => hF5 26 (by decide) j, by first | exact fun _ _ => rfl | exact h2_13 | exact fun j _ => hF5 28 (by decide) j⟩⟩⟩
theorem chk_sp_X5_image_0w (L : Nat) (xs : Nat → Int32) (sio : Option Nat) (d : Nat) (dt : Nat → Nat → Int) (hI : InvC dt)    : GO (am_XX L xs sio) (d + 3) 98 0 [some (.inr (.inr (some 0))), some (.inl 0)] [] (SH, dt) (fun r w2 => ∃ dt2 : Nat → Nat → Int, w2 = (SH, dt2) ∧ InvC dt2 ∧ Fr [1, 2, 3, 4, 5, 6, 7, 8, 9, 10, 11, 12, 13, 14, 15, 16, 17] dt dt2 ∧ ((∃ v : Int, r = some (.inl v) ∧ (0 ≤ v ∧ v ≤ 1) ∧ (v = 1) ∧ (dt 0 2 = 1) ∧ (dt2 0 2 = 1) ∧ (dt2 1 0 = dt 18 0) ∧ (dt2 7 3 = dt 24 3) ∧ (dt2 10 3 = dt 27 3) ∧ (dt2 12 3 = dt 29 3) ∧ (dt2 14 3 = dt 31 3) ∧ (dt2 16 3 = dt 33 3) ∧ (dt2 18 0 = dt 18 0) ∧ (dt2 24 3 = dt 24 3) ∧ (dt2 27 3 = dt 27 3) ∧ (dt2 29 3 = dt 29 3) ∧ (dt2 31 3 = dt 31 3) ∧ (dt2 33 3 = dt 33 3) ∧ (∀ j : Nat, j < 192 → dt2 2 j = dt 19 j) ∧ (∀ j : Nat, j < 8 → dt2 3 j = dt 20 j) ∧ (∀ j : Nat, j < 256 → dt2 4 j = dt 21 j) ∧ (∀ j : Nat, j < 4 → dt2 5 j = dt 22 j) ∧ (∀ j : Nat, j < 2000 → dt2 6 j = dt 23 j) ∧ (∀ j : Nat, j < 60 → dt2 8 j = dt 25 j) ∧ (∀ j : Nat, j < 132 → dt2 9 j = dt 26 j) ∧ (∀ j : Nat, j < 160 → dt2 11 j = dt 28 j) ∧ (∀ j : Nat, j < 192 → dt2 19 j = dt 19 j) ∧ (∀ j : Nat, j < 8 → dt2 20 j = dt 20 j) ∧ (∀ j : Nat, j < 256 → dt2 21 j = dt 21 j) ∧ (∀ j : Nat, j < 4 → dt2 22 j = dt 22 j) ∧ (∀ j : Nat, j < 2000 → dt2 23 j = dt 23 j) ∧ (∀ j : Nat, j < 60 → dt2 25 j = dt 25 j) ∧ (∀ j : Nat, j < 132 → dt2 26 j = dt 26 j) ∧ (∀ j : Nat, j < 160 → dt2 28 j = dt 28 j)) ∨ (∃ v : Int, r = some (.inl v) ∧ (0 ≤ v ∧ v ≤ 1) ∧ (v = 0) ∧ (dt 0 2 = 0) ∧ (dt2 0 2 = 0) ∧ (dt2 1 0 = dt 1 0) ∧ (dt2 7 3 = dt 7 3) ∧ (dt2 10 3 = dt 10 3) ∧ (dt2 12 3 = dt 12 3) ∧ (dt2 14 3 = dt 14 3) ∧ (dt2 16 3 = dt 16 3) ∧ (dt2 18 0 = dt 18 0) ∧ (dt2 24 3 = dt 24 3) ∧ (dt2 27 3 = dt 27 3) ∧ (dt2 29 3 = dt 29 3) ∧ (dt2 31 3 = dt 31 3) ∧ (dt2 33 3 = dt 33 3) ∧ (∀ j : Nat, j < 192 → dt2 2 j = dt 2 j) ∧ (∀ j : Nat, j < 8 → dt2 3 j = dt 3 j) ∧ (∀ j : Nat, j < 256 → dt2 4 j = dt 4 j) ∧ (∀ j : Nat, j < 4 → dt2 5 j = dt 5 j) ∧ (∀ j : Nat, j < 2000 → dt2 6 j = dt 6 j) ∧ (∀ j : Nat, j < 60 → dt2 8 j = dt 8 j) ∧ (∀ j : Nat, j < 132 → dt2 9 j = dt 9 j) ∧ (∀ j : Nat, j < 160 → dt2 11 j = dt 11 j) ∧ (∀ j : Nat, j < 192 → dt2 19 j = dt 19 j) ∧ (∀ j : Nat, j < 8 → dt2 20 j = dt 20 j) ∧ (∀ j : Nat, j < 256 → dt2 21 j = dt 21 j) ∧ (∀ j : Nat, j < 4 → dt2 22 j = dt 22 j) ∧ (∀ j : Nat, j < 2000 → dt2 23 j = dt 23 j) ∧ (∀ j : Nat, j < 60 → dt2 25 j = dt 25 j) ∧ (∀ j : Nat, j < 132 → dt2 26 j = dt 26 j) ∧ (∀ j : Nat, j < 160 → dt2 28 j = dt 28 j)))) := by
  have hF : Fr [1, 2, 3, 4, 5, 6, 7, 8, 9, 10, 11, 12, 13, 14, 15, 16, 17] dt dt := Fr_refl
  have r1 : 0 ≤ dt 0 2 ∧ dt 0 2 ≤ 1 := InvC_get hI 0 2 rfl rfl
  refine go_if (k := 5) (p1 := 41) (p2 := 30) (L' := [some (.inr (.inr (some 0))), some (.inl 0)]) (st' := []) (w' := (SH, dt)) (fun _ => rfl) (z_eq (a := dt 0 2) ⟨by omega, by omega⟩) (fun c2 => ?_) (fun c2 => ?_)
  · skip
    refine go_to (k := 2) (pc' := 45) (L' := [some (.inr (.inr (some 0))), some (.inl 0)]) (st' := [.inl (dt 0 2)]) (w' := (SH, dt)) (fun _ => rfl) ?_
    refine go_retv (v := dt 0 2) rfl rfl (decide_eq_true (show dt 0 2 = 0 ∨ dt 0 2 = 1 by omega)) ?_
    first | exact ⟨dt, rfl, hI, hF, (Or.inl ⟨_, rfl, ⟨by omega, by omega⟩, ⟨by first | trivial | omega, by first | trivial | omega, by first | trivial | omega, by first | trivial | omega, by first | trivial | omega, by first | trivial | omega, by first | trivial | omega, by first | trivial | omega, by first | trivial | omega, by first | trivial | omega, by first | trivial | omega, by first | trivial | omega, by first | trivial | omega, by first | trivial | omega, by first | trivial | omega, by first | exact fun _ _ => rfl | exact hI | exact fun j _ => hI 2 (by decide) j, by first | exact fun _ _ => rfl | exact hI | exact fun j _ => hI 3 (by decide) j, by first | exact fun _ _ => rfl | exact hI | exact fun j _ => hI 4 (by decide) j, by first | exact fun _ _ => rfl | exact hI | exact fun j _ => hI 5 (by decide) j, by first | exact fun _ _ => rfl | exact hI | exact fun j _ => hI 6 (by decide) j, by first | exact fun _ _ => rfl | exact hI | exact fun j _ => hI 8 (by decide) j, by first | exact fun _ _ => rfl | exact hI | exact fun j _ => hI 9 (by decide) j, by first | exact fun _ _ => rfl | exact hI | exact fun j _ => hI 11 (by decide) j, by first | exact fun _ _ => rfl | exact hI | exact fun j _ => hI 19 (by decide) j, by first | exact fun _ _ => rfl | exact hI | exact fun j _ => hI 20 (by decide) j, by first | exact fun _ _ => rfl | exact hI | exact fun j _ => hI 21 (by decide) j, by first | exact fun _ _ => rfl | exact hI | exact fun j _ => hI 22 (by decide) j, by first | exact fun _ _ => rfl | exact hI | exact fun j _ => hI 23 (by decide) j, by first | exact fun _ _ => rfl | exact hI | exact fun j _ => hI 25 (by decide) j, by first | exact fun _ _ => rfl | exact hI | exact fun j _ => hI 26 (by decide) j, by first | exact fun _ _ => rfl | exact hI | exact fun j _ => hI 28 (by decide) j⟩⟩)⟩ | exact ⟨dt, rfl, hI, hF, (Or.inr ⟨_, rfl, ⟨by omega, by omega⟩, ⟨by first | trivial | omega, by first | trivial | omega, by first | trivial | omega, by first | trivial | omega, by first | trivial | omega, by first | trivial | omega, by first | trivial | omega, by first | trivial | omega, by first | trivial | omega, by first | trivial | omega, by first | trivial | omega, by first | trivial | omega, by first | trivial | omega, by first | trivial | omega, by first | trivial | omega, by first | exact fun _ _ => rfl | exact hI | exact fun j _ => hI 2 (by decide) j, by first | exact fun _ _ => rfl | exact hI | exact fun j _ => hI 3 (by decide) j, by first | exact fun _ _ => rfl | exact hI | exact fun j _ => hI 4 (by decide) j, by first | exact fun _ _ => rfl | exact hI | exact fun j _ => hI 5 (by decide) j, by first | exact fun _ _ => rfl | exact hI | exact fun j _ => hI 6 (by decide) j, by first | exact fun _ _ => rfl | exact hI | exact fun j _ => hI 8 (by decide) j, by first | exact fun _ _ => rfl | exact hI | exact fun j _ => hI 9 (by decide) j, by first | exact fun _ _ => rfl | exact hI | exact fun j _ => hI 11 (by decide) j, by first | exact fun _ _ => rfl | exact hI | exact fun j _ => hI 19 (by decide) j, by first | exact fun _ _ => rfl | exact hI | exact fun j _ => hI 20 (by decide) j, by first | exact fun _ _ => rfl | exact hI | exact fun j _ => hI 21 (by decide) j, by first | exact fun _ _ => rfl | exact hI | exact fun j _ => hI 22 (by decide) j, by first | exact fun _ _ => rfl | exact hI | exact fun j _ => hI 23 (by decide) j, by first | exact fun _ _ => rfl | exact hI | exact fun j _ => hI 25 (by decide) j, by first | exact fun _ _ => rfl | exact hI | exact fun j _ => hI 26 (by decide) j, by first | exact fun _ _ => rfl | exact hI | exact fun j _ => hI 28 (by decide) j⟩⟩)⟩
  · skip
    refine go_to (k := 4) (pc' := 38) (L' := [some (.inr (.inr (some 0))), some (.inl 0)]) (st' := [.inr (.inr (some 18)), .inr (.inr (some 1))]) (w' := (SH, dt)) (fun _ => rfl) ?_
    refine go_call (Q' := _) rfl rfl rfl rfl rfl (sp_X0_copyFrom_1w L xs sio (d + 0) dt hI   ) ?_
    rintro _ _ ⟨dt4, rfl, hI5, hF6, h3⟩
    refine ⟨rfl, ?_⟩
    have hF7 : Fr [1, 2, 3, 4, 5, 6, 7, 8, 9, 10, 11, 12, 13, 14, 15, 16, 17] dt dt4 := Fr_tr hF hF6 (by decide)
    have w8 : dt4 0 2 = dt 0 2 := hF6 0 (by decide) 2
    have w9 : dt4 18 0 = dt 18 0 := hF6 18 (by decide) 0
    have w10 : dt4 24 3 = dt 24 3 := hF6 24 (by decide) 3
    have w11 : dt4 27 3 = dt 27 3 := hF6 27 (by decide) 3
    have w12 : dt4 29 3 = dt 29 3 := hF6 29 (by decide) 3
    have w13 : dt4 31 3 = dt 31 3 := hF6 31 (by decide) 3
    have w14 : dt4 33 3 = dt 33 3 := hF6 33 (by decide) 3
    rcases h3 with ⟨rfl, h3⟩
    obtain ⟨h3_0, h3_1, h3_2, h3_3, h3_4, h3_5, h3_6, h3_7, h3_8, h3_9, h3_10, h3_11, h3_12, h3_13⟩ := h3
    have r15 : 0 ≤ dt4 0 2 ∧ dt4 0 2 ≤ 1 := InvC_get hI5 0 2 rfl rfl
    refine go_to (k := 2) (pc' := 45) (L' := [some (.inr (.inr (some 0))), some (.inl 0)]) (st' := [.inl (dt4 0 2)]) (w' := (SH, dt4)) (fun _ => rfl) ?_
    refine go_retv (v := dt4 0 2) rfl rfl (decide_eq_true (show dt4 0 2 = 0 ∨ dt4 0 2 = 1 by omega)) ?_
    first | exact ⟨dt4, rfl, hI5, hF7, (Or.inl ⟨_, rfl, ⟨by omega, by omega⟩, ⟨by first | trivial | omega, by first | trivial | omega, by first | trivial | omega, by first | trivial | omega, by first | trivial | omega, by first | trivial | omega, by first | trivial | omega, by first | trivial | omega, by first | trivial | omega, by first | trivial | omega, by first | trivial | omega, by first | trivial | omega, by first | trivial | omega, by first | trivial | omega, by first | trivial | omega, by first | exact fun _ _ => rfl | exact h3_6 | exact fun j _ => hF6 2 (by decide) j, by first | exact fun _ _ => rfl | exact h3_7 | exact fun j _ => hF6 3 (by decide) j, by first | exact fun _ _ => rfl | exact h3_8 | exact fun j _ => hF6 4 (by decide) j, by first | exact fun _ _ => rfl | exact h3_9 | exact fun j _ => hF6 5 (by decide) j, by first | exact fun _ _ => rfl | exact h3_10 | exact fun j _ => hF6 6 (by decide) j, by first | exact fun _ _ => rfl | exact h3_11 | exact fun j _ => hF6 8 (by decide) j, by first | exact fun _ _ => rfl | exact h3_12 | exact fun j _ => hF6 9 (by decide) j, by first | exact fun _ _ => rfl | exact h3_13 | exact fun j _ => hF6 11 (by decide) j, by first | exact fun _ _ => rfl | exact hI | exact fun j _ => hF6 19 (by decide) j, by first | exact fun _ _ => rfl | exact hI | exact fun j _ => hF6 20 (by decide) j, by first | exact fun _ _ => rfl | exact hI | exact fun j _ => hF6 21 (by decide) j, by first | exact fun _ _ => rfl | exact hI | exact fun j _ => hF6 22 (by decide) j, by first | exact fun _ _ => rfl | exact hI | exact fun j _ => hF6 23 (by decide) j, by first | exact fun _ _ => rfl | exact hI | exact fun j _ => hF6 25 (by decide) j, by first | exact fun _ _ => rfl | exact hI | exact fun j _ => hF6 26 (by decide) j, by first | exact fun _ _ => rfl | exact hI | exact fun j _ => hF6 28 (by decide) j⟩⟩)⟩ | exact ⟨dt4, rfl, hI5, hF7, (Or.inr ⟨_, rfl, ⟨by omega, by omega⟩, ⟨by first | trivial | omega, by first | trivial | omega, by first | trivial | omega, by first | trivial | omega, by first | trivial | omega, by first | trivial | omega, by first | trivial | omega, by first | trivial | omega, by first | trivial | omega, by first | trivial | omega, by first | trivial | omega, by first | trivial | omega, by first | trivial | omega, by first | trivial | omega, by first | trivial | omega, by first | exact fun _ _ => rfl | exact h3_6 | exact fun j _ => hF6 2 (by decide) j, by first | exact fun _ _ => rfl | exact h3_7 | exact fun j _ => hF6 3 (by decide) j, by first | exact fun _ _ => rfl | exact h3_8 | exact fun j _ => hF6 4 (by decide) j, by first | exact fun _ _ => rfl | exact h3_9 | exact fun j _ => hF6 5 (by decide) j, by first | exact fun _ _ => rfl | exact h3_10 | exact fun j _ => hF6 6 (by decide) j, by first | exact fun _ _ => rfl | exact h3_11 | exact fun j _ => hF6 8 (by decide) j, by first | exact fun _ _ => rfl | exact h3_12 | exact fun j _ => hF6 9 (by decide) j, by first | exact fun _ _ => rfl | exact h3_13 | exact fun j _ => hF6 11 (by decide) j, by first | exact fun _ _ => rfl | exact hI | exact fun j _ => hF6 19 (by decide) j, by first | exact fun _ _ => rfl | exact hI | exact fun j _ => hF6 20 (by decide) j, by first | exact fun _ _ => rfl | exact hI | exact fun j _ => hF6 21 (by decide) j, by first | exact fun _ _ => rfl | exact hI | exact fun j _ => hF6 22 (by decide) j, by first | exact fun _ _ => rfl | exact hI | exact fun j _ => hF6 23 (by decide) j, by first | exact fun _ _ => rfl | exact hI | exact fun j _ => hF6 25 (by decide) j, by first | exact fun _ _ => rfl | exact hI | exact fun j _ => hF6 26 (by decide) j, by first | exact fun _ _ => rfl | exact hI | exact fun j _ => hF6 28 (by decide) j⟩⟩)⟩
theorem chk_sp_X5_weighedChance_f (L : Nat) (xs : Nat → Int32) (sio : Option Nat) (d : Nat) (dt : Nat → Nat → Int) (hI : InvC dt) (F : Nat → Int) (hMF : MW F) (fa : Nat → Int) (l : Int) (p1 : Int) (h_p1 : 0 ≤ p1 ∧ p1 ≤ 11) (p2 : Int) (h_p2 : (-1) ≤ p2 ∧ p2 ≤ 3) (h_p0 : WGT (dt 72) (dt 71 1) F fa l) (h_p1 : SDL (dt 9) F) (h_p2 : p1 < dt 7 3) (h_p3 : dt 7 3 = F 1) : GO (am_XX L xs sio) (d + 2) 119 0 [some (.inr (.inr (some 0))), some (.inl p1), some (.inl p2), none, none, none, none] [] (SH, dt) (fun r w2 => w2 = (SH, dt) ∧ ((∃ v : Int, r = some (.inl v) ∧ (0 ≤ v ∧ v ≤ 1000) ∧ (v = CHF F fa l p1.toNat p2)))) := by
  have r1 : 0 ≤ dt 7 3 ∧ dt 7 3 ≤ 12 := InvC_get hI 7 3 rfl rfl
  have hs_ : ∀ r : Nat, r ≤ 10 → dt 9 (11 * p1.toNat + r) = SAID F p1.toNat (r : Int) := fun r hr => h_p1 p1.toNat (by omega) r hr
  have hw8_ := h_p0.2.1
  have ha_ := h_p0.2.2
  have bWS := WS_R8 (f := F) (fa := fa) (l := l) 8 (by decide)
  have b8_ := WH_R (f := F) (fa := fa) (l := l) (rule := 8)
  rw [if_pos rfl] at b8_
  have h0_ : dt 9 (((p1 * 11) + 0)).toNat = SAID F p1.toNat 0 := by rw [show (((p1 * 11) + 0)).toNat = 11 * p1.toNat + 0 by omega]; exact hs_ 0 (by decide)
  have r2 : 0 ≤ dt 71 1 ∧ dt 71 1 ≤ 792 := InvC_get hI 71 1 rfl rfl
  refine go_if (k := 8) (p1 := 32) (p2 := 15) (L' := [some (.inr (.inr (some 0))), some (.inl p1), some (.inl p2), some (.inl (dt 71 1)), some (.inl 0), none, none]) (st' := []) (w' := (SH, dt)) (fun _ => rfl) (z_ne (a := dt 71 1) ⟨by omega, by omega⟩) (fun c3 => ?_) (fun c3 => ?_)
  · skip
    refine go_to (k := 2) (pc' := 35) (L' := [some (.inr (.inr (some 0))), some (.inl p1), some (.inl p2), some (.inl (dt 71 1)), some (.inl 0), some (.inl 0), none]) (st' := []) (w' := (SH, dt)) (fun _ => rfl) ?_
    have loop13 : ∀ (k_ : Nat) (l35_4 : Int) (l35_5 : Int) (i9 : 0 ≤ l35_4 ∧ l35_4 ≤ 792) (i10 : 0 ≤ l35_5 ∧ l35_5 ≤ 8) (i11 : l35_4 = SOF (fun r => SAID F p1.toNat (r : Int)) (fun r => WH F fa l (r : Int)) p2 l35_5.toNat) (i12 : l35_4 ≤ 99 * l35_5), (9 - l35_5).toNat < k_ → GO (am_XX L xs sio) (d + 2) 119 35 [some (.inr (.inr (some 0))), some (.inl p1), some (.inl p2), some (.inl (dt 71 1)), some (.inl l35_4), some (.inl l35_5), none] [] (SH, dt) (fun r w2 => w2 = (SH, dt) ∧ ((∃ v : Int, r = some (.inl v) ∧ (0 ≤ v ∧ v ≤ 1000) ∧ (v = CHF F fa l p1.toNat p2)))) := by
      intro k_
      induction k_ with
      | zero => intro l35_4 l35_5 i9 i10 i11 i12 hm; exact absurd hm (Nat.not_lt_zero _)
      | succ k_ ih_loop13 =>
        intro l35_4 l35_5 i9 i10 i11 i12 hm
        have qS := i11
        have hS_ : l35_5 < 8 → dt 9 (((p1 * 11) + l35_5)).toNat = SAID F p1.toNat ((l35_5.toNat : Nat) : Int) := fun z_ => by rw [show (((p1 * 11) + l35_5)).toNat = 11 * p1.toNat + l35_5.toNat by omega]; exact hs_ l35_5.toNat (by omega)
        have hW_ : l35_5 < 8 → dt 72 l35_5.toNat = WH F fa l ((l35_5.toNat : Nat) : Int) := fun z_ => h_p0.1 l35_5.toNat (by omega)
        have hR_ : l35_5 < 8 → _ := fun (z_ : l35_5 < 8) => WH_R7 (f := F) (fa := fa) (l := l) (r := ((l35_5.toNat : Nat) : Int)) (by omega)
        have hY_ := SOF_y (S := (fun r => SAID F p1.toNat (r : Int))) (w := (fun r => WH F fa l (r : Int))) (a := p2) (r := l35_5) (by omega)
        have hN_ := SOF_n (S := (fun r => SAID F p1.toNat (r : Int))) (w := (fun r => WH F fa l (r : Int))) (a := p2) (r := l35_5) (by omega)
        dsimp only at hY_ hN_
        refine go_if (k := 3) (p1 := 81) (p2 := 42) (L' := [some (.inr (.inr (some 0))), some (.inl p1), some (.inl p2), some (.inl (dt 71 1)), some (.inl l35_4), some (.inl l35_5), none]) (st' := []) (w' := (SH, dt)) (fun _ => rfl) (c_ge (a := l35_5) (b := 8) ⟨by omega, by omega⟩ ⟨by omega, by omega⟩) (fun c14 => ?_) (fun c14 => ?_)
        · skip
          refine go_to (k := 4) (pc' := 90) (L' := [some (.inr (.inr (some 0))), some (.inl p1), some (.inl p2), some (.inl (dt 71 1)), some (.inl l35_4), some (.inl l35_5), none]) (st' := [.inl 8, .inr (.inr (some 72))]) (w' := (SH, dt)) (fun _ => rfl) ?_
          have r15 : 0 ≤ dt 72 8 ∧ dt 72 8 ≤ 100 := InvC_get hI 72 8 rfl rfl
          refine go_smp (L' := [some (.inr (.inr (some 0))), some (.inl p1), some (.inl p2), some (.inl (dt 71 1)), some (.inl l35_4), some (.inl l35_5), none]) (st' := [.inl (dt 72 8)]) (w' := (SH, dt)) rfl rfl (s_iald (n := 9) (f := dt 72) rfl ⟨by omega, by omega⟩) ?_
          refine go_to (k := 12) (pc' := 110) (L' := [some (.inr (.inr (some 0))), some (.inl p1), some (.inl p2), some (.inl (dt 71 1)), some (.inl l35_4), some (.inl (dt 72 8)), some (.inl ((100 - (dt 72 8)) * l35_4))]) (st' := [.inl 0, .inl p1, .inr (.inr (some 1)), .inl p2]) (w' := (SH, dt)) (fun _ => rfl) ?_
          refine go_call (Q' := _) rfl rfl rfl rfl rfl (sp_X0_saidOf_f L xs sio (d + 0) dt hI  p1 ⟨by omega, by omega⟩ 0 ⟨by omega, by omega⟩ (by first | trivial | omega)) ?_
          rintro _ _ ⟨rfl, h16⟩
          refine ⟨rfl, ?_⟩
          rcases h16 with ⟨rfl, h16⟩
          refine go_if (k := 1) (p1 := 125) (p2 := 116) (L' := [some (.inr (.inr (some 0))), some (.inl p1), some (.inl p2), some (.inl (dt 71 1)), some (.inl l35_4), some (.inl (dt 72 8)), some (.inl ((100 - (dt 72 8)) * l35_4))]) (st' := []) (w' := (SH, dt)) (fun _ => rfl) (c_ne (a := p2) (b := dt 9 (((p1 * 11) + 0)).toNat) ⟨by omega, by omega⟩ ⟨by omega, by omega⟩) (fun c17 => ?_) (fun c17 => ?_)
          · skip
            refine go_if (k := 2) (p1 := 139) (p2 := 129) (L' := [some (.inr (.inr (some 0))), some (.inl p1), some (.inl p2), some (.inl (dt 71 1)), some (.inl l35_4), some (.inl (dt 72 8)), some (.inl ((100 - (dt 72 8)) * l35_4))]) (st' := []) (w' := (SH, dt)) (fun _ => rfl) (z_le (a := dt 71 1) ⟨by omega, by omega⟩) (fun c18 => ?_) (fun c18 => ?_)
            · exfalso; omega
            · skip
              refine go_to (k := 4) (pc' := 135) (L' := [some (.inr (.inr (some 0))), some (.inl p1), some (.inl p2), some (.inl (dt 71 1)), some (.inl l35_4), some (.inl (dt 72 8)), some (.inl ((100 - (dt 72 8)) * l35_4))]) (st' := [.inl (dt 71 1), .inl (((100 - (dt 72 8)) * l35_4) * 10)]) (w' := (SH, dt)) (fun _ => rfl) ?_
              refine go_smp (L' := [some (.inr (.inr (some 0))), some (.inl p1), some (.inl p2), some (.inl (dt 71 1)), some (.inl l35_4), some (.inl (dt 72 8)), some (.inl ((100 - (dt 72 8)) * l35_4))]) (st' := [.inl ((wr (((100 - (dt 72 8)) * l35_4) * 10)).tdiv (wr (dt 71 1)))]) (w' := (SH, dt)) rfl rfl (s_idiv (by rw [wr_R ⟨by omega, by omega⟩]; omega)) ?_
              refine go_to (k := 1) (pc' := 140) (L' := [some (.inr (.inr (some 0))), some (.inl p1), some (.inl p2), some (.inl (dt 71 1)), some (.inl l35_4), some (.inl (dt 72 8)), some (.inl ((100 - (dt 72 8)) * l35_4))]) (st' := [.inl ((wr (((100 - (dt 72 8)) * l35_4) * 10)).tdiv (wr (dt 71 1)))]) (w' := (SH, dt)) (fun _ => rfl) ?_
              have hv_ : (wr (((100 - (dt 72 8)) * l35_4) * 10)).tdiv (wr (dt 71 1)) = CHF F fa l p1.toNat p2 := by unfold CHF CHP; rw [if_neg (by omega), ← hw8_, ← ha_, show SOF _ _ p2 8 = l35_4 from (by rw [qS, show l35_5.toNat = 8 by omega])]; first | (rw [if_pos (by omega)]; done) | (rw [if_neg (by omega), Int.add_zero]; done)
              have hb_ := CHF_R (f := F) (fa := fa) (l := l) (a := p2) (q := p1.toNat)
              rw [← hv_] at hb_
              refine go_ret (k := 1) (r := some (.inl ((wr (((100 - (dt 72 8)) * l35_4) * 10)).tdiv (wr (dt 71 1))))) (w1 := (SH, dt)) (fun _ => rfl) ?_
              exact ⟨rfl, ⟨_, rfl, ⟨by omega, by omega⟩, by exact hv_⟩⟩
          · skip
            refine go_if (k := 8) (p1 := 139) (p2 := 129) (L' := [some (.inr (.inr (some 0))), some (.inl p1), some (.inl p2), some (.inl (dt 71 1)), some (.inl l35_4), some (.inl (dt 72 8)), some (.inl (((100 - (dt 72 8)) * l35_4) + ((dt 72 8) * (dt 71 1))))]) (st' := []) (w' := (SH, dt)) (fun _ => rfl) (z_le (a := dt 71 1) ⟨by omega, by omega⟩) (fun c19 => ?_) (fun c19 => ?_)
            · exfalso; omega
            · skip
              refine go_to (k := 4) (pc' := 135) (L' := [some (.inr (.inr (some 0))), some (.inl p1), some (.inl p2), some (.inl (dt 71 1)), some (.inl l35_4), some (.inl (dt 72 8)), some (.inl (((100 - (dt 72 8)) * l35_4) + ((dt 72 8) * (dt 71 1))))]) (st' := [.inl (dt 71 1), .inl ((((100 - (dt 72 8)) * l35_4) + ((dt 72 8) * (dt 71 1))) * 10)]) (w' := (SH, dt)) (fun _ => rfl) ?_
              refine go_smp (L' := [some (.inr (.inr (some 0))), some (.inl p1), some (.inl p2), some (.inl (dt 71 1)), some (.inl l35_4), some (.inl (dt 72 8)), some (.inl (((100 - (dt 72 8)) * l35_4) + ((dt 72 8) * (dt 71 1))))]) (st' := [.inl ((wr ((((100 - (dt 72 8)) * l35_4) + ((dt 72 8) * (dt 71 1))) * 10)).tdiv (wr (dt 71 1)))]) (w' := (SH, dt)) rfl rfl (s_idiv (by rw [wr_R ⟨by omega, by omega⟩]; omega)) ?_
              refine go_to (k := 1) (pc' := 140) (L' := [some (.inr (.inr (some 0))), some (.inl p1), some (.inl p2), some (.inl (dt 71 1)), some (.inl l35_4), some (.inl (dt 72 8)), some (.inl (((100 - (dt 72 8)) * l35_4) + ((dt 72 8) * (dt 71 1))))]) (st' := [.inl ((wr ((((100 - (dt 72 8)) * l35_4) + ((dt 72 8) * (dt 71 1))) * 10)).tdiv (wr (dt 71 1)))]) (w' := (SH, dt)) (fun _ => rfl) ?_
              have hv_ : (wr ((((100 - (dt 72 8)) * l35_4) + ((dt 72 8) * (dt 71 1))) * 10)).tdiv (wr (dt 71 1)) = CHF F fa l p1.toNat p2 := by unfold CHF CHP; rw [if_neg (by omega), ← hw8_, ← ha_, show SOF _ _ p2 8 = l35_4 from (by rw [qS, show l35_5.toNat = 8 by omega])]; first | (rw [if_pos (by omega)]; done) | (rw [if_neg (by omega), Int.add_zero]; done)
              have hb_ := CHF_R (f := F) (fa := fa) (l := l) (a := p2) (q := p1.toNat)
              rw [← hv_] at hb_
              refine go_ret (k := 1) (r := some (.inl ((wr ((((100 - (dt 72 8)) * l35_4) + ((dt 72 8) * (dt 71 1))) * 10)).tdiv (wr (dt 71 1))))) (w1 := (SH, dt)) (fun _ => rfl) ?_
              exact ⟨rfl, ⟨_, rfl, ⟨by omega, by omega⟩, by exact hv_⟩⟩
        · skip
          refine go_to (k := 5) (pc' := 51) (L' := [some (.inr (.inr (some 0))), some (.inl p1), some (.inl p2), some (.inl (dt 71 1)), some (.inl l35_4), some (.inl l35_5), none]) (st' := [.inl l35_5, .inl p1, .inr (.inr (some 1)), .inl l35_4]) (w' := (SH, dt)) (fun _ => rfl) ?_
          refine go_call (Q' := _) rfl rfl rfl rfl rfl (sp_X0_saidOf_f L xs sio (d + 0) dt hI  p1 ⟨by omega, by omega⟩ l35_5 ⟨by omega, by omega⟩ (by first | trivial | omega)) ?_
          rintro _ _ ⟨rfl, h20⟩
          refine ⟨rfl, ?_⟩
          rcases h20 with ⟨rfl, h20⟩
          refine go_if (k := 2) (p1 := 71) (p2 := 58) (L' := [some (.inr (.inr (some 0))), some (.inl p1), some (.inl p2), some (.inl (dt 71 1)), some (.inl l35_4), some (.inl l35_5), none]) (st' := [.inl l35_4]) (w' := (SH, dt)) (fun _ => rfl) (c_ne (a := dt 9 (((p1 * 11) + l35_5)).toNat) (b := p2) ⟨by omega, by omega⟩ ⟨by omega, by omega⟩) (fun c21 => ?_) (fun c21 => ?_)
          · skip
            refine go_to (k := 5) (pc' := 35) (L' := [some (.inr (.inr (some 0))), some (.inl p1), some (.inl p2), some (.inl (dt 71 1)), some (.inl (l35_4 + 0)), some (.inl (l35_5 + 1)), none]) (st' := []) (w' := (SH, dt)) (fun _ => rfl) ?_
            exact GO.le (ih_loop13 (l35_4 + 0) (l35_5 + 1) (by first | omega | rfl) (by first | omega | rfl) (by first | omega | rfl) (by first | omega | rfl) (by omega)) ⟨.inl rfl, .inl rfl, .inl rfl, .inl rfl, .inl rfl, .inl rfl, .inl rfl, trivial⟩
          · skip
            refine go_to (k := 4) (pc' := 67) (L' := [some (.inr (.inr (some 0))), some (.inl p1), some (.inl p2), some (.inl (dt 71 1)), some (.inl l35_4), some (.inl l35_5), none]) (st' := [.inl l35_5, .inr (.inr (some 72)), .inl l35_4]) (w' := (SH, dt)) (fun _ => rfl) ?_
            have r22 : 0 ≤ dt 72 (l35_5).toNat ∧ dt 72 (l35_5).toNat ≤ 100 := InvC_get hI 72 (l35_5).toNat rfl rfl
            refine go_smp (L' := [some (.inr (.inr (some 0))), some (.inl p1), some (.inl p2), some (.inl (dt 71 1)), some (.inl l35_4), some (.inl l35_5), none]) (st' := [.inl (dt 72 (l35_5).toNat), .inl l35_4]) (w' := (SH, dt)) rfl rfl (s_iald (n := 9) (f := dt 72) rfl ⟨by omega, by omega⟩) ?_
            refine go_to (k := 5) (pc' := 35) (L' := [some (.inr (.inr (some 0))), some (.inl p1), some (.inl p2), some (.inl (dt 71 1)), some (.inl (l35_4 + (dt 72 (l35_5).toNat))), some (.inl (l35_5 + 1)), none]) (st' := []) (w' := (SH, dt)) (fun _ => rfl) ?_
            exact GO.le (ih_loop13 (l35_4 + (dt 72 (l35_5).toNat)) (l35_5 + 1) (by first | omega | rfl) (by first | omega | rfl) (by first | omega | rfl) (by first | omega | rfl) (by omega)) ⟨.inl rfl, .inl rfl, .inl rfl, .inl rfl, .inl rfl, .inl rfl, .inl rfl, trivial⟩
    exact GO.le (loop13 _ 0 0 (by first | omega | rfl) (by first | omega | rfl) (by first | omega | rfl) (by first | omega | rfl) (Nat.lt_succ_self _)) ⟨.inl rfl, .inl rfl, .inl rfl, .inl rfl, .inl rfl, .inl rfl, .inl rfl, trivial⟩
  · skip
    refine go_if (k := 5) (p1 := 26) (p2 := 22) (L' := [some (.inr (.inr (some 0))), some (.inl p1), some (.inl p2), some (.inl 4), some (.inl 0), none, none]) (st' := []) (w' := (SH, dt)) (fun _ => rfl) (c_ne (a := p2) (b := (-1)) ⟨by omega, by omega⟩ ⟨by omega, by omega⟩) (fun c23 => ?_) (fun c23 => ?_)
    · skip
      refine go_to (k := 7) (pc' := 90) (L' := [some (.inr (.inr (some 0))), some (.inl p1), some (.inl p2), some (.inl 4), some (.inl 1), none, none]) (st' := [.inl 8, .inr (.inr (some 72))]) (w' := (SH, dt)) (fun _ => rfl) ?_
      have r24 : 0 ≤ dt 72 8 ∧ dt 72 8 ≤ 100 := InvC_get hI 72 8 rfl rfl
      refine go_smp (L' := [some (.inr (.inr (some 0))), some (.inl p1), some (.inl p2), some (.inl 4), some (.inl 1), none, none]) (st' := [.inl (dt 72 8)]) (w' := (SH, dt)) rfl rfl (s_iald (n := 9) (f := dt 72) rfl ⟨by omega, by omega⟩) ?_
      refine go_to (k := 12) (pc' := 110) (L' := [some (.inr (.inr (some 0))), some (.inl p1), some (.inl p2), some (.inl 4), some (.inl 1), some (.inl (dt 72 8)), some (.inl ((100 - (dt 72 8)) * 1))]) (st' := [.inl 0, .inl p1, .inr (.inr (some 1)), .inl p2]) (w' := (SH, dt)) (fun _ => rfl) ?_
      refine go_call (Q' := _) rfl rfl rfl rfl rfl (sp_X0_saidOf_f L xs sio (d + 0) dt hI  p1 ⟨by omega, by omega⟩ 0 ⟨by omega, by omega⟩ (by first | trivial | omega)) ?_
      rintro _ _ ⟨rfl, h25⟩
      refine ⟨rfl, ?_⟩
      rcases h25 with ⟨rfl, h25⟩
      refine go_if (k := 1) (p1 := 125) (p2 := 116) (L' := [some (.inr (.inr (some 0))), some (.inl p1), some (.inl p2), some (.inl 4), some (.inl 1), some (.inl (dt 72 8)), some (.inl ((100 - (dt 72 8)) * 1))]) (st' := []) (w' := (SH, dt)) (fun _ => rfl) (c_ne (a := p2) (b := dt 9 (((p1 * 11) + 0)).toNat) ⟨by omega, by omega⟩ ⟨by omega, by omega⟩) (fun c26 => ?_) (fun c26 => ?_)
      · skip
        refine go_to (k := 6) (pc' := 135) (L' := [some (.inr (.inr (some 0))), some (.inl p1), some (.inl p2), some (.inl 4), some (.inl 1), some (.inl (dt 72 8)), some (.inl ((100 - (dt 72 8)) * 1))]) (st' := [.inl 4, .inl (((100 - (dt 72 8)) * 1) * 10)]) (w' := (SH, dt)) (fun _ => rfl) ?_
        refine go_smp (L' := [some (.inr (.inr (some 0))), some (.inl p1), some (.inl p2), some (.inl 4), some (.inl 1), some (.inl (dt 72 8)), some (.inl ((100 - (dt 72 8)) * 1))]) (st' := [.inl ((((100 - (dt 72 8)) * 1) * 10) / 4)]) (w' := (SH, dt)) rfl rfl (s_idivc ⟨by omega, by omega⟩ ⟨by omega, by omega⟩) ?_
        refine go_to (k := 1) (pc' := 140) (L' := [some (.inr (.inr (some 0))), some (.inl p1), some (.inl p2), some (.inl 4), some (.inl 1), some (.inl (dt 72 8)), some (.inl ((100 - (dt 72 8)) * 1))]) (st' := [.inl ((((100 - (dt 72 8)) * 1) * 10) / 4)]) (w' := (SH, dt)) (fun _ => rfl) ?_
        have hv_ : (((100 - (dt 72 8)) * 1) * 10) / 4 = CHF F fa l p1.toNat p2 := by unfold CHF; rw [if_pos (by omega), CHP_e ⟨by decide, by decide⟩ ⟨by omega, by omega⟩ (by split <;> omega)]; (repeat (first | rw [if_pos (by omega)] | rw [if_neg (by omega)])); omega
        have hb_ := CHF_R (f := F) (fa := fa) (l := l) (a := p2) (q := p1.toNat)
        rw [← hv_] at hb_
        refine go_ret (k := 1) (r := some (.inl ((((100 - (dt 72 8)) * 1) * 10) / 4))) (w1 := (SH, dt)) (fun _ => rfl) ?_
        exact ⟨rfl, ⟨_, rfl, ⟨by omega, by omega⟩, by exact hv_⟩⟩
      · skip
        refine go_to (k := 12) (pc' := 135) (L' := [some (.inr (.inr (some 0))), some (.inl p1), some (.inl p2), some (.inl 4), some (.inl 1), some (.inl (dt 72 8)), some (.inl (((100 - (dt 72 8)) * 1) + ((dt 72 8) * 4)))]) (st' := [.inl 4, .inl ((((100 - (dt 72 8)) * 1) + ((dt 72 8) * 4)) * 10)]) (w' := (SH, dt)) (fun _ => rfl) ?_
        refine go_smp (L' := [some (.inr (.inr (some 0))), some (.inl p1), some (.inl p2), some (.inl 4), some (.inl 1), some (.inl (dt 72 8)), some (.inl (((100 - (dt 72 8)) * 1) + ((dt 72 8) * 4)))]) (st' := [.inl (((((100 - (dt 72 8)) * 1) + ((dt 72 8) * 4)) * 10) / 4)]) (w' := (SH, dt)) rfl rfl (s_idivc ⟨by omega, by omega⟩ ⟨by omega, by omega⟩) ?_
        refine go_to (k := 1) (pc' := 140) (L' := [some (.inr (.inr (some 0))), some (.inl p1), some (.inl p2), some (.inl 4), some (.inl 1), some (.inl (dt 72 8)), some (.inl (((100 - (dt 72 8)) * 1) + ((dt 72 8) * 4)))]) (st' := [.inl (((((100 - (dt 72 8)) * 1) + ((dt 72 8) * 4)) * 10) / 4)]) (w' := (SH, dt)) (fun _ => rfl) ?_
        have hv_ : ((((100 - (dt 72 8)) * 1) + ((dt 72 8) * 4)) * 10) / 4 = CHF F fa l p1.toNat p2 := by unfold CHF; rw [if_pos (by omega), CHP_e ⟨by decide, by decide⟩ ⟨by omega, by omega⟩ (by split <;> omega)]; (repeat (first | rw [if_pos (by omega)] | rw [if_neg (by omega)])); omega
        have hb_ := CHF_R (f := F) (fa := fa) (l := l) (a := p2) (q := p1.toNat)
        rw [← hv_] at hb_
        refine go_ret (k := 1) (r := some (.inl (((((100 - (dt 72 8)) * 1) + ((dt 72 8) * 4)) * 10) / 4))) (w1 := (SH, dt)) (fun _ => rfl) ?_
        exact ⟨rfl, ⟨_, rfl, ⟨by omega, by omega⟩, by exact hv_⟩⟩
    · skip
      refine go_to (k := 8) (pc' := 90) (L' := [some (.inr (.inr (some 0))), some (.inl p1), some (.inl p2), some (.inl 4), some (.inl 0), none, none]) (st' := [.inl 8, .inr (.inr (some 72))]) (w' := (SH, dt)) (fun _ => rfl) ?_
      have r27 : 0 ≤ dt 72 8 ∧ dt 72 8 ≤ 100 := InvC_get hI 72 8 rfl rfl
      refine go_smp (L' := [some (.inr (.inr (some 0))), some (.inl p1), some (.inl p2), some (.inl 4), some (.inl 0), none, none]) (st' := [.inl (dt 72 8)]) (w' := (SH, dt)) rfl rfl (s_iald (n := 9) (f := dt 72) rfl ⟨by omega, by omega⟩) ?_
      refine go_to (k := 12) (pc' := 110) (L' := [some (.inr (.inr (some 0))), some (.inl p1), some (.inl p2), some (.inl 4), some (.inl 0), some (.inl (dt 72 8)), some (.inl ((100 - (dt 72 8)) * 0))]) (st' := [.inl 0, .inl p1, .inr (.inr (some 1)), .inl p2]) (w' := (SH, dt)) (fun _ => rfl) ?_
      refine go_call (Q' := _) rfl rfl rfl rfl rfl (sp_X0_saidOf_f L xs sio (d + 0) dt hI  p1 ⟨by omega, by omega⟩ 0 ⟨by omega, by omega⟩ (by first | trivial | omega)) ?_
      rintro _ _ ⟨rfl, h28⟩
      refine ⟨rfl, ?_⟩
      rcases h28 with ⟨rfl, h28⟩
      refine go_if (k := 1) (p1 := 125) (p2 := 116) (L' := [some (.inr (.inr (some 0))), some (.inl p1), some (.inl p2), some (.inl 4), some (.inl 0), some (.inl (dt 72 8)), some (.inl ((100 - (dt 72 8)) * 0))]) (st' := []) (w' := (SH, dt)) (fun _ => rfl) (c_ne (a := p2) (b := dt 9 (((p1 * 11) + 0)).toNat) ⟨by omega, by omega⟩ ⟨by omega, by omega⟩) (fun c29 => ?_) (fun c29 => ?_)
      · skip
        refine go_to (k := 6) (pc' := 135) (L' := [some (.inr (.inr (some 0))), some (.inl p1), some (.inl p2), some (.inl 4), some (.inl 0), some (.inl (dt 72 8)), some (.inl ((100 - (dt 72 8)) * 0))]) (st' := [.inl 4, .inl (((100 - (dt 72 8)) * 0) * 10)]) (w' := (SH, dt)) (fun _ => rfl) ?_
        refine go_smp (L' := [some (.inr (.inr (some 0))), some (.inl p1), some (.inl p2), some (.inl 4), some (.inl 0), some (.inl (dt 72 8)), some (.inl ((100 - (dt 72 8)) * 0))]) (st' := [.inl ((((100 - (dt 72 8)) * 0) * 10) / 4)]) (w' := (SH, dt)) rfl rfl (s_idivc ⟨by omega, by omega⟩ ⟨by omega, by omega⟩) ?_
        refine go_to (k := 1) (pc' := 140) (L' := [some (.inr (.inr (some 0))), some (.inl p1), some (.inl p2), some (.inl 4), some (.inl 0), some (.inl (dt 72 8)), some (.inl ((100 - (dt 72 8)) * 0))]) (st' := [.inl ((((100 - (dt 72 8)) * 0) * 10) / 4)]) (w' := (SH, dt)) (fun _ => rfl) ?_
        have hv_ : (((100 - (dt 72 8)) * 0) * 10) / 4 = CHF F fa l p1.toNat p2 := by unfold CHF; rw [if_pos (by omega), CHP_e ⟨by decide, by decide⟩ ⟨by omega, by omega⟩ (by split <;> omega)]; (repeat (first | rw [if_pos (by omega)] | rw [if_neg (by omega)])); omega
        have hb_ := CHF_R (f := F) (fa := fa) (l := l) (a := p2) (q := p1.toNat)
        rw [← hv_] at hb_
        refine go_ret (k := 1) (r := some (.inl ((((100 - (dt 72 8)) * 0) * 10) / 4))) (w1 := (SH, dt)) (fun _ => rfl) ?_
        exact ⟨rfl, ⟨_, rfl, ⟨by omega, by omega⟩, by exact hv_⟩⟩
      · skip
        refine go_to (k := 12) (pc' := 135) (L' := [some (.inr (.inr (some 0))), some (.inl p1), some (.inl p2), some (.inl 4), some (.inl 0), some (.inl (dt 72 8)), some (.inl (((100 - (dt 72 8)) * 0) + ((dt 72 8) * 4)))]) (st' := [.inl 4, .inl ((((100 - (dt 72 8)) * 0) + ((dt 72 8) * 4)) * 10)]) (w' := (SH, dt)) (fun _ => rfl) ?_
        refine go_smp (L' := [some (.inr (.inr (some 0))), some (.inl p1), some (.inl p2), some (.inl 4), some (.inl 0), some (.inl (dt 72 8)), some (.inl (((100 - (dt 72 8)) * 0) + ((dt 72 8) * 4)))]) (st' := [.inl (((((100 - (dt 72 8)) * 0) + ((dt 72 8) * 4)) * 10) / 4)]) (w' := (SH, dt)) rfl rfl (s_idivc ⟨by omega, by omega⟩ ⟨by omega, by omega⟩) ?_
        refine go_to (k := 1) (pc' := 140) (L' := [some (.inr (.inr (some 0))), some (.inl p1), some (.inl p2), some (.inl 4), some (.inl 0), some (.inl (dt 72 8)), some (.inl (((100 - (dt 72 8)) * 0) + ((dt 72 8) * 4)))]) (st' := [.inl (((((100 - (dt 72 8)) * 0) + ((dt 72 8) * 4)) * 10) / 4)]) (w' := (SH, dt)) (fun _ => rfl) ?_
        have hv_ : ((((100 - (dt 72 8)) * 0) + ((dt 72 8) * 4)) * 10) / 4 = CHF F fa l p1.toNat p2 := by unfold CHF; rw [if_pos (by omega), CHP_e ⟨by decide, by decide⟩ ⟨by omega, by omega⟩ (by split <;> omega)]; (repeat (first | rw [if_pos (by omega)] | rw [if_neg (by omega)])); omega
        have hb_ := CHF_R (f := F) (fa := fa) (l := l) (a := p2) (q := p1.toNat)
        rw [← hv_] at hb_
        refine go_ret (k := 1) (r := some (.inl (((((100 - (dt 72 8)) * 0) + ((dt 72 8) * 4)) * 10) / 4))) (w1 := (SH, dt)) (fun _ => rfl) ?_
        exact ⟨rfl, ⟨_, rfl, ⟨by omega, by omega⟩, by exact hv_⟩⟩
theorem chk_sp_X5_chance_f (L : Nat) (xs : Nat → Int32) (sio : Option Nat) (d : Nat) (dt : Nat → Nat → Int) (hI : InvC dt) (F : Nat → Int) (hMF : MW F) (p1 : Int) (h_p1 : (-2147483648) ≤ p1 ∧ p1 ≤ 2147483647) (p2 : Int) (h_p2 : (-2147483648) ≤ p2 ∧ p2 ≤ 2147483647) (p3 : Int) (h_p3 : (-2147483648) ≤ p3 ∧ p3 ≤ 2147483647) (p4 : Int) (h_p4 : (-2147483648) ≤ p4 ∧ p4 ≤ 2147483647) (p5 : Int) (h_p5 : (-2147483648) ≤ p5 ∧ p5 ≤ 2147483647) (h_p0 : ALK dt F) : GO (am_XX L xs sio) (d + 5) 82 0 [some (.inr (.inr (some 0))), some (.inl p1), some (.inl p2), some (.inl p3), some (.inl p4), some (.inl p5)] [] (SH, dt) (fun r w2 => ∃ dt2 : Nat → Nat → Int, w2 = (SH, dt2) ∧ InvC dt2 ∧ Fr [71, 72, 73, 74] dt dt2 ∧ ((r = some (.inl (-1)) ∧ (¬ ((0 ≤ p1 ∧ p1 ≤ 3) ∧ (0 ≤ p2 ∧ p2 < dt 10 3) ∧ (0 ≤ p3 ∧ p3 < dt 7 3) ∧ (0 ≤ p4 ∧ p4 ≤ 3) ∧ ((-1) ≤ p5 ∧ p5 ≤ 3)))) ∨ (∃ v : Int, r = some (.inl v) ∧ (0 ≤ v ∧ v ≤ 1000) ∧ ((0 ≤ p1 ∧ p1 ≤ 3) ∧ (0 ≤ p2 ∧ p2 < dt 10 3) ∧ (0 ≤ p3 ∧ p3 < dt 7 3) ∧ (0 ≤ p4 ∧ p4 ≤ 3) ∧ ((-1) ≤ p5 ∧ p5 ≤ 3)) ∧ (v = CHN F p1 p2 p3 p4 p5)))) := by
  have hF : Fr [71, 72, 73, 74] dt dt := Fr_refl
  have r1 : 0 ≤ dt 7 3 ∧ dt 7 3 ≤ 12 := InvC_get hI 7 3 rfl rfl
  have r2 : 0 ≤ dt 10 3 ∧ dt 10 3 ≤ 40 := InvC_get hI 10 3 rfl rfl
  refine go_to (k := 1) (pc' := 1) (L' := [some (.inr (.inr (some 0))), some (.inl p1), some (.inl p2), some (.inl p3), some (.inl p4), some (.inl p5)]) (st' := [.inl p1]) (w' := (SH, dt)) (fun _ => rfl) ?_
  refine go_call (Q' := _) rfl rfl rfl rfl rfl (sp_X5_isLaw L xs sio (d + 3) dt hI  p1 ⟨by omega, by omega⟩ ) ?_
  rintro _ _ ⟨rfl, h3⟩
  refine ⟨rfl, ?_⟩
  rcases h3 with ⟨rfl, h3⟩ | ⟨rfl, h3⟩
  · skip
    refine go_to (k := 5) (pc' := 12) (L' := [some (.inr (.inr (some 0))), some (.inl p1), some (.inl p2), some (.inl p3), some (.inl p4), some (.inl p5)]) (st' := [.inl p4, .inl p3, .inl p2, .inr (.inr (some 0))]) (w' := (SH, dt)) (fun _ => rfl) ?_
    refine go_call (Q' := _) rfl rfl rfl rfl rfl (sp_X5_canAsk L xs sio (d + 3) dt hI  p2 ⟨by omega, by omega⟩ p3 ⟨by omega, by omega⟩ p4 ⟨by omega, by omega⟩ ) ?_
    rintro _ _ ⟨rfl, h4⟩
    refine ⟨rfl, ?_⟩
    rcases h4 with ⟨rfl, h4⟩ | ⟨rfl, h4⟩
    · skip
      refine go_to (k := 2) (pc' := 20) (L' := [some (.inr (.inr (some 0))), some (.inl p1), some (.inl p2), some (.inl p3), some (.inl p4), some (.inl p5)]) (st' := [.inl p5]) (w' := (SH, dt)) (fun _ => rfl) ?_
      refine go_call (Q' := _) rfl rfl rfl rfl rfl (sp_X5_isAnswer L xs sio (d + 3) dt hI  p5 ⟨by omega, by omega⟩ ) ?_
      rintro _ _ ⟨rfl, h5⟩
      refine ⟨rfl, ?_⟩
      rcases h5 with ⟨rfl, h5⟩ | ⟨rfl, h5⟩
      · skip
        refine go_to (k := 6) (pc' := 34) (L' := [some (.inr (.inr (some 0))), some (.inl p1), some (.inl p2), some (.inl p3), some (.inl p4), some (.inl p5)]) (st' := [.inl p4, .inl p3, .inl p2, .inl p1, .inr (.inr (some 0))]) (w' := (SH, dt)) (fun _ => rfl) ?_
        refine go_call (Q' := _) rfl rfl rfl rfl rfl (sp_X5_weigh_f L xs sio (d + 0) dt hI F hMF p1 ⟨by omega, by omega⟩ p2 ⟨by omega, by omega⟩ p3 ⟨by omega, by omega⟩ p4 ⟨by omega, by omega⟩ (by first | trivial | omega | exact h_p0 | exact hI | (rw [show dt 9 = dt 9 from funext (hF 9 (by decide))]; exact h_p0.2.2.1) | (rw [show dt 7 3 = dt 7 3 from hF 7 (by decide) 3]; first | omega | exact h_p0.2.2.2.2.1)) (by first | trivial | omega | exact h_p0 | exact hI | (rw [show dt 9 = dt 9 from funext (hF 9 (by decide))]; exact h_p0.2.2.1) | (rw [show dt 7 3 = dt 7 3 from hF 7 (by decide) 3]; first | omega | exact h_p0.2.2.2.2.1)) (by first | trivial | omega | exact h_p0 | exact hI | (rw [show dt 9 = dt 9 from funext (hF 9 (by decide))]; exact h_p0.2.2.1) | (rw [show dt 7 3 = dt 7 3 from hF 7 (by decide) 3]; first | omega | exact h_p0.2.2.2.2.1))) ?_
        rintro _ _ ⟨dt7, rfl, hI8, hF9, h6⟩
        refine ⟨rfl, ?_⟩
        have hF10 : Fr [71, 72, 73, 74] dt dt7 := Fr_tr hF hF9 (by decide)
        rcases h6 with ⟨rfl, h6⟩
        refine go_to (k := 3) (pc' := 41) (L' := [some (.inr (.inr (some 0))), some (.inl p1), some (.inl p2), some (.inl p3), some (.inl p4), some (.inl p5)]) (st' := [.inl p5, .inl p3, .inr (.inr (some 0))]) (w' := (SH, dt7)) (fun _ => rfl) ?_
        refine go_call (Q' := _) rfl rfl rfl rfl rfl (sp_X5_weighedChance_f L xs sio (d + 2) dt7 hI8 F hMF (FQ F p2 p3 p4) p1 p3 ⟨by omega, by omega⟩ p5 ⟨by omega, by omega⟩ (by first | trivial | omega | exact h_p0 | exact h6 | (rw [show dt7 9 = dt 9 from funext (hF10 9 (by decide))]; exact h_p0.2.2.1) | (rw [show dt7 7 3 = dt 7 3 from hF10 7 (by decide) 3]; first | omega | exact h_p0.2.2.2.2.1)) (by first | trivial | omega | exact h_p0 | exact h6 | (rw [show dt7 9 = dt 9 from funext (hF10 9 (by decide))]; exact h_p0.2.2.1) | (rw [show dt7 7 3 = dt 7 3 from hF10 7 (by decide) 3]; first | omega | exact h_p0.2.2.2.2.1)) (by first | trivial | omega | exact h_p0 | exact h6 | (rw [show dt7 9 = dt 9 from funext (hF10 9 (by decide))]; exact h_p0.2.2.1) | (rw [show dt7 7 3 = dt 7 3 from hF10 7 (by decide) 3]; first | omega | exact h_p0.2.2.2.2.1)) (by first | trivial | omega | exact h_p0 | exact h6 | (rw [show dt7 9 = dt 9 from funext (hF10 9 (by decide))]; exact h_p0.2.2.1) | (rw [show dt7 7 3 = dt 7 3 from hF10 7 (by decide) 3]; first | omega | exact h_p0.2.2.2.2.1))) ?_
        rintro _ _ ⟨rfl, h11⟩
        refine ⟨rfl, ?_⟩
        rcases h11 with ⟨v_h11, rfl, h11r, h11⟩
        refine go_ret (k := 1) (r := some (.inl v_h11)) (w1 := (SH, dt7)) (fun _ => rfl) ?_
        exact ⟨dt7, rfl, hI8, hF10, (Or.inr ⟨_, rfl, ⟨by omega, by omega⟩, ⟨by first | trivial | omega, by exact (h11).trans CHN_F.symm⟩⟩)⟩
      · skip
        refine go_ret (k := 3) (r := some (.inl (-1))) (w1 := (SH, dt)) (fun _ => rfl) ?_
        first | exact ⟨dt, rfl, hI, hF, (Or.inl ⟨rfl, by first | trivial | omega⟩)⟩ | exact ⟨dt, rfl, hI, hF, (Or.inr ⟨_, rfl, ⟨by omega, by omega⟩, ⟨by first | trivial | omega, by exact (hI).trans CHN_F.symm⟩⟩)⟩
    · skip
      refine go_ret (k := 3) (r := some (.inl (-1))) (w1 := (SH, dt)) (fun _ => rfl) ?_
      first | exact ⟨dt, rfl, hI, hF, (Or.inl ⟨rfl, by first | trivial | omega⟩)⟩ | exact ⟨dt, rfl, hI, hF, (Or.inr ⟨_, rfl, ⟨by omega, by omega⟩, ⟨by first | trivial | omega, by exact (hI).trans CHN_F.symm⟩⟩)⟩
  · skip
    refine go_ret (k := 3) (r := some (.inl (-1))) (w1 := (SH, dt)) (fun _ => rfl) ?_
    first | exact ⟨dt, rfl, hI, hF, (Or.inl ⟨rfl, by first | trivial | omega⟩)⟩ | exact ⟨dt, rfl, hI, hF, (Or.inr ⟨_, rfl, ⟨by omega, by omega⟩, ⟨by first | trivial | omega, by exact (hI).trans CHN_F.symm⟩⟩)⟩
set_option maxRecDepth 20000 in
theorem chk_sp_X6_gathers_g (L : Nat) (xs : Nat → Int32) (sio : Option Nat) (d : Nat) (dt : Nat → Nat → Int) (hI : InvC dt) (hM : MW (dt 80))  (p1 : Int) (h_p1 : 0 ≤ p1 ∧ p1 ≤ 39) (p2 : Int) (h_p2 : 0 ≤ p2 ∧ p2 ≤ 11) (p3 : Int) (h_p3 : 0 ≤ p3 ∧ p3 ≤ 3)  : GO (am_XX L xs sio) (d + 5) 205 0 [some (.inr (.inr (some 79))), some (.inl p1), some (.inl p2), some (.inl p3)] [] (SH, dt) (fun r w2 => ∃ dt2 : Nat → Nat → Int, w2 = (SH, dt2) ∧ InvC dt2 ∧ Fr [87, 88, 89, 90, 91, 92, 93, 94, 95, 96, 97, 98, 99, 100] dt dt2 ∧ ((r = none ∧ (∀ s : Nat, 1 ≤ s → s ≤ 6 → dt2 87 s = FQ (dt 80) p1 p2 p3 s) ∧ (VR dt2 = wend (dt 80) (dt 80 (5320 + 5 * p2.toNat)))))) := by
  have hF : Fr [87, 88, 89, 90, 91, 92, 93, 94, 95, 96, 97, 98, 99, 100] dt dt := Fr_refl
  have hq_ := MW_q hM p2 ⟨by omega, by omega⟩
  refine go_to (k := 4) (pc' := 4) (L' := [some (.inr (.inr (some 79))), some (.inl p1), some (.inl p2), some (.inl p3)]) (st' := [.inl 0, .inl p2, .inr (.inr (some 79)), .inr (.inr (some 79))]) (w' := (SH, dt)) (fun _ => rfl) ?_
  refine go_call (Q' := _) rfl rfl rfl rfl rfl (sp_X6_asked_0 L xs sio (d + 4) dt hI hM  p2 ⟨by omega, by omega⟩ ) ?_
  rintro _ _ ⟨rfl, h1⟩
  refine ⟨rfl, ?_⟩
  rcases h1 with ⟨rfl, h1⟩
  refine go_call (Q' := _) rfl rfl rfl rfl rfl (sp_X6_goes_w L xs sio (d + 0) dt hI hM  (dt 80 (((5320 + (5 * p2)) + 0)).toNat) ⟨by omega, by omega⟩ ) ?_
  rintro _ _ ⟨dt3, rfl, hI4, hF5, h2⟩
  refine ⟨rfl, ?_⟩
  have hF6 : Fr [87, 88, 89, 90, 91, 92, 93, 94, 95, 96, 97, 98, 99, 100] dt dt3 := Fr_tr hF hF5 (by decide)
  have w7 : dt3 87 1 = dt 87 1 := hF5 87 (by decide) 1
  have w8 : dt3 87 2 = dt 87 2 := hF5 87 (by decide) 2
  have w9 : dt3 87 3 = dt 87 3 := hF5 87 (by decide) 3
  have w10 : dt3 87 4 = dt 87 4 := hF5 87 (by decide) 4
  have w11 : dt3 87 5 = dt 87 5 := hF5 87 (by decide) 5
  have w12 : dt3 87 6 = dt 87 6 := hF5 87 (by decide) 6
  rcases h2 with ⟨rfl, h2⟩
  have we13 : VR dt3 = wend (dt 80) (dt 80 (5320 + 5 * p2.toNat)) := by rw [show 5320 + 5 * p2.toNat = (((5320 + (5 * p2)) + 0)).toNat by omega]; exact h2
  have wm0_ : wend (dt 80) (dt 80 (5320 + 5 * p2.toNat)) 6 0 = dt3 93 0 := by rw [← we13]; exact VR_r (f := 6) (by decide) (show 0 < 3 by decide)
  have wm1_ : wend (dt 80) (dt 80 (5320 + 5 * p2.toNat)) 6 1 = dt3 93 1 := by rw [← we13]; exact VR_r (f := 6) (by decide) (show 1 < 3 by decide)
  have wm2_ : wend (dt 80) (dt 80 (5320 + 5 * p2.toNat)) 6 2 = dt3 93 2 := by rw [← we13]; exact VR_r (f := 6) (by decide) (show 2 < 3 by decide)
  have ve14 : VR dt3 = wend (dt 80) (dt 80 (5320 + 5 * p2.toNat)) := by rw [show 5320 + 5 * p2.toNat = (((5320 + (5 * p2)) + 0)).toNat by omega]; exact h2
  refine go_to (k := 6) (pc' := 18) (L' := [some (.inr (.inr (some 79))), some (.inl p1), some (.inl p2), some (.inl p3)]) (st' := [.inl 1, .inl p1, .inr (.inr (some 79)), .inl 1, .inr (.inr (some 87))]) (w' := (SH, dt3)) (fun _ => rfl) ?_
  refine go_call (Q' := _) rfl rfl rfl rfl rfl (sp_X6_ofChild_1 L xs sio (d + 4) dt3 hI4 (MW_fr hM hF6 (by decide))  p1 ⟨by omega, by omega⟩ ) ?_
  rintro _ _ ⟨rfl, h15⟩
  refine ⟨rfl, ?_⟩
  rcases h15 with ⟨rfl, h15⟩
  have ef16 : dt3 80 (((5380 + (4 * p1)) + 1)).toNat = dt 80 (((5380 + (4 * p1)) + 1)).toNat := hF6 80 (by decide) _
  have hI17 : InvC (u2 dt3 87 1 (dt3 80 (((5380 + (4 * p1)) + 1)).toNat)) := InvC_u2 hI4 (lo := -2147483648) (hi := 2147483647) rfl rfl rfl (by omega) (by omega)
  have hF18 : Fr [87, 88, 89, 90, 91, 92, 93, 94, 95, 96, 97, 98, 99, 100] dt (u2 dt3 87 1 (dt3 80 (((5380 + (4 * p1)) + 1)).toNat)) := Fr_u2 hF6 (by decide)
  have w19 : (u2 dt3 87 1 (dt3 80 (((5380 + (4 * p1)) + 1)).toNat)) 87 1 = dt3 80 (((5380 + (4 * p1)) + 1)).toNat := rfl
  have w20 : (u2 dt3 87 1 (dt3 80 (((5380 + (4 * p1)) + 1)).toNat)) 87 2 = dt3 87 2 := rfl
  have w21 : (u2 dt3 87 1 (dt3 80 (((5380 + (4 * p1)) + 1)).toNat)) 87 3 = dt3 87 3 := rfl
  have w22 : (u2 dt3 87 1 (dt3 80 (((5380 + (4 * p1)) + 1)).toNat)) 87 4 = dt3 87 4 := rfl
  have w23 : (u2 dt3 87 1 (dt3 80 (((5380 + (4 * p1)) + 1)).toNat)) 87 5 = dt3 87 5 := rfl
  have w24 : (u2 dt3 87 1 (dt3 80 (((5380 + (4 * p1)) + 1)).toNat)) 87 6 = dt3 87 6 := rfl
  have ve25 : VR (u2 dt3 87 1 (dt3 80 (((5380 + (4 * p1)) + 1)).toNat)) = wend (dt 80) (dt 80 (5320 + 5 * p2.toNat)) := (VR_x (by decide)).trans ve14
  refine go_smp (L' := [some (.inr (.inr (some 79))), some (.inl p1), some (.inl p2), some (.inl p3)]) (st' := []) (w' := (SH, (u2 dt3 87 1 (dt3 80 (((5380 + (4 * p1)) + 1)).toNat)))) rfl rfl (s_iast (n := 7) rfl ⟨by omega, by omega⟩ ⟨by omega, by omega⟩) ?_
  refine go_to (k := 6) (pc' := 30) (L' := [some (.inr (.inr (some 79))), some (.inl p1), some (.inl p2), some (.inl p3)]) (st' := [.inl 2, .inl p1, .inr (.inr (some 79)), .inl 2, .inr (.inr (some 87))]) (w' := (SH, (u2 dt3 87 1 (dt3 80 (((5380 + (4 * p1)) + 1)).toNat)))) (fun _ => rfl) ?_
  refine go_call (Q' := _) rfl rfl rfl rfl rfl (sp_X6_ofChild_2 L xs sio (d + 4) (u2 dt3 87 1 (dt3 80 (((5380 + (4 * p1)) + 1)).toNat)) hI17 (MW_fr hM hF18 (by decide))  p1 ⟨by omega, by omega⟩ ) ?_
  rintro _ _ ⟨rfl, h26⟩
  refine ⟨rfl, ?_⟩
  rcases h26 with ⟨rfl, h26⟩
  have ef27 : (u2 dt3 87 1 (dt3 80 (((5380 + (4 * p1)) + 1)).toNat)) 80 (((5380 + (4 * p1)) + 2)).toNat = dt 80 (((5380 + (4 * p1)) + 2)).toNat := hF18 80 (by decide) _
  have hI28 : InvC (u2 (u2 dt3 87 1 (dt3 80 (((5380 + (4 * p1)) + 1)).toNat)) 87 2 ((u2 dt3 87 1 (dt3 80 (((5380 + (4 * p1)) + 1)).toNat)) 80 (((5380 + (4 * p1)) + 2)).toNat)) := InvC_u2 hI17 (lo := -2147483648) (hi := 2147483647) rfl rfl rfl (by omega) (by omega)
  have hF29 : Fr [87, 88, 89, 90, 91, 92, 93, 94, 95, 96, 97, 98, 99, 100] dt (u2 (u2 dt3 87 1 (dt3 80 (((5380 + (4 * p1)) + 1)).toNat)) 87 2 ((u2 dt3 87 1 (dt3 80 (((5380 + (4 * p1)) + 1)).toNat)) 80 (((5380 + (4 * p1)) + 2)).toNat)) := Fr_u2 hF18 (by decide)
  have w30 : (u2 (u2 dt3 87 1 (dt3 80 (((5380 + (4 * p1)) + 1)).toNat)) 87 2 ((u2 dt3 87 1 (dt3 80 (((5380 + (4 * p1)) + 1)).toNat)) 80 (((5380 + (4 * p1)) + 2)).toNat)) 87 1 = (u2 dt3 87 1 (dt3 80 (((5380 + (4 * p1)) + 1)).toNat)) 87 1 := rfl
  have w31 : (u2 (u2 dt3 87 1 (dt3 80 (((5380 + (4 * p1)) + 1)).toNat)) 87 2 ((u2 dt3 87 1 (dt3 80 (((5380 + (4 * p1)) + 1)).toNat)) 80 (((5380 + (4 * p1)) + 2)).toNat)) 87 2 = (u2 dt3 87 1 (dt3 80 (((5380 + (4 * p1)) + 1)).toNat)) 80 (((5380 + (4 * p1)) + 2)).toNat := rfl
  have w32 : (u2 (u2 dt3 87 1 (dt3 80 (((5380 + (4 * p1)) + 1)).toNat)) 87 2 ((u2 dt3 87 1 (dt3 80 (((5380 + (4 * p1)) + 1)).toNat)) 80 (((5380 + (4 * p1)) + 2)).toNat)) 87 3 = (u2 dt3 87 1 (dt3 80 (((5380 + (4 * p1)) + 1)).toNat)) 87 3 := rfl
  have w33 : (u2 (u2 dt3 87 1 (dt3 80 (((5380 + (4 * p1)) + 1)).toNat)) 87 2 ((u2 dt3 87 1 (dt3 80 (((5380 + (4 * p1)) + 1)).toNat)) 80 (((5380 + (4 * p1)) + 2)).toNat)) 87 4 = (u2 dt3 87 1 (dt3 80 (((5380 + (4 * p1)) + 1)).toNat)) 87 4 := rfl
  have w34 : (u2 (u2 dt3 87 1 (dt3 80 (((5380 + (4 * p1)) + 1)).toNat)) 87 2 ((u2 dt3 87 1 (dt3 80 (((5380 + (4 * p1)) + 1)).toNat)) 80 (((5380 + (4 * p1)) + 2)).toNat)) 87 5 = (u2 dt3 87 1 (dt3 80 (((5380 + (4 * p1)) + 1)).toNat)) 87 5 := rfl
  have w35 : (u2 (u2 dt3 87 1 (dt3 80 (((5380 + (4 * p1)) + 1)).toNat)) 87 2 ((u2 dt3 87 1 (dt3 80 (((5380 + (4 * p1)) + 1)).toNat)) 80 (((5380 + (4 * p1)) + 2)).toNat)) 87 6 = (u2 dt3 87 1 (dt3 80 (((5380 + (4 * p1)) + 1)).toNat)) 87 6 := rfl
  have ve36 : VR (u2 (u2 dt3 87 1 (dt3 80 (((5380 + (4 * p1)) + 1)).toNat)) 87 2 ((u2 dt3 87 1 (dt3 80 (((5380 + (4 * p1)) + 1)).toNat)) 80 (((5380 + (4 * p1)) + 2)).toNat)) = wend (dt 80) (dt 80 (5320 + 5 * p2.toNat)) := (VR_x (by decide)).trans ve25
  refine go_smp (L' := [some (.inr (.inr (some 79))), some (.inl p1), some (.inl p2), some (.inl p3)]) (st' := []) (w' := (SH, (u2 (u2 dt3 87 1 (dt3 80 (((5380 + (4 * p1)) + 1)).toNat)) 87 2 ((u2 dt3 87 1 (dt3 80 (((5380 + (4 * p1)) + 1)).toNat)) 80 (((5380 + (4 * p1)) + 2)).toNat)))) rfl rfl (s_iast (n := 7) rfl ⟨by omega, by omega⟩ ⟨by omega, by omega⟩) ?_
  refine go_to (k := 6) (pc' := 42) (L' := [some (.inr (.inr (some 79))), some (.inl p1), some (.inl p2), some (.inl p3)]) (st' := [.inl 3, .inl p1, .inr (.inr (some 79)), .inl 5, .inr (.inr (some 87))]) (w' := (SH, (u2 (u2 dt3 87 1 (dt3 80 (((5380 + (4 * p1)) + 1)).toNat)) 87 2 ((u2 dt3 87 1 (dt3 80 (((5380 + (4 * p1)) + 1)).toNat)) 80 (((5380 + (4 * p1)) + 2)).toNat)))) (fun _ => rfl) ?_
  refine go_call (Q' := _) rfl rfl rfl rfl rfl (sp_X6_ofChild_3 L xs sio (d + 4) (u2 (u2 dt3 87 1 (dt3 80 (((5380 + (4 * p1)) + 1)).toNat)) 87 2 ((u2 dt3 87 1 (dt3 80 (((5380 + (4 * p1)) + 1)).toNat)) 80 (((5380 + (4 * p1)) + 2)).toNat)) hI28 (MW_fr hM hF29 (by decide))  p1 ⟨by omega, by omega⟩ ) ?_
  rintro _ _ ⟨rfl, h37⟩
  refine ⟨rfl, ?_⟩
  rcases h37 with ⟨rfl, h37⟩
  have ef38 : (u2 (u2 dt3 87 1 (dt3 80 (((5380 + (4 * p1)) + 1)).toNat)) 87 2 ((u2 dt3 87 1 (dt3 80 (((5380 + (4 * p1)) + 1)).toNat)) 80 (((5380 + (4 * p1)) + 2)).toNat)) 80 (((5380 + (4 * p1)) + 3)).toNat = dt 80 (((5380 + (4 * p1)) + 3)).toNat := hF29 80 (by decide) _
  have hI39 : InvC (u2 (u2 (u2 dt3 87 1 (dt3 80 (((5380 + (4 * p1)) + 1)).toNat)) 87 2 ((u2 dt3 87 1 (dt3 80 (((5380 + (4 * p1)) + 1)).toNat)) 80 (((5380 + (4 * p1)) + 2)).toNat)) 87 5 ((u2 (u2 dt3 87 1 (dt3 80 (((5380 + (4 * p1)) + 1)).toNat)) 87 2 ((u2 dt3 87 1 (dt3 80 (((5380 + (4 * p1)) + 1)).toNat)) 80 (((5380 + (4 * p1)) + 2)).toNat)) 80 (((5380 + (4 * p1)) + 3)).toNat)) := InvC_u2 hI28 (lo := -2147483648) (hi := 2147483647) rfl rfl rfl (by omega) (by omega)
  have hF40 : Fr [87, 88, 89, 90, 91, 92, 93, 94, 95, 96, 97, 98, 99, 100] dt (u2 (u2 (u2 dt3 87 1 (dt3 80 (((5380 + (4 * p1)) + 1)).toNat)) 87 2 ((u2 dt3 87 1 (dt3 80 (((5380 + (4 * p1)) + 1)).toNat)) 80 (((5380 + (4 * p1)) + 2)).toNat)) 87 5 ((u2 (u2 dt3 87 1 (dt3 80 (((5380 + (4 * p1)) + 1)).toNat)) 87 2 ((u2 dt3 87 1 (dt3 80 (((5380 + (4 * p1)) + 1)).toNat)) 80 (((5380 + (4 * p1)) + 2)).toNat)) 80 (((5380 + (4 * p1)) + 3)).toNat)) := Fr_u2 hF29 (by decide)
  have w41 : (u2 (u2 (u2 dt3 87 1 (dt3 80 (((5380 + (4 * p1)) + 1)).toNat)) 87 2 ((u2 dt3 87 1 (dt3 80 (((5380 + (4 * p1)) + 1)).toNat)) 80 (((5380 + (4 * p1)) + 2)).toNat)) 87 5 ((u2 (u2 dt3 87 1 (dt3 80 (((5380 + (4 * p1)) + 1)).toNat)) 87 2 ((u2 dt3 87 1 (dt3 80 (((5380 + (4 * p1)) + 1)).toNat)) 80 (((5380 + (4 * p1)) + 2)).toNat)) 80 (((5380 + (4 * p1)) + 3)).toNat)) 87 1 = (u2 (u2 dt3 87 1 (dt3 80 (((5380 + (4 * p1)) + 1)).toNat)) 87 2 ((u2 dt3 87 1 (dt3 80 (((5380 + (4 * p1)) + 1)).toNat)) 80 (((5380 + (4 * p1)) + 2)).toNat)) 87 1 := rfl
  have w42 : (u2 (u2 (u2 dt3 87 1 (dt3 80 (((5380 + (4 * p1)) + 1)).toNat)) 87 2 ((u2 dt3 87 1 (dt3 80 (((5380 + (4 * p1)) + 1)).toNat)) 80 (((5380 + (4 * p1)) + 2)).toNat)) 87 5 ((u2 (u2 dt3 87 1 (dt3 80 (((5380 + (4 * p1)) + 1)).toNat)) 87 2 ((u2 dt3 87 1 (dt3 80 (((5380 + (4 * p1)) + 1)).toNat)) 80 (((5380 + (4 * p1)) + 2)).toNat)) 80 (((5380 + (4 * p1)) + 3)).toNat)) 87 2 = (u2 (u2 dt3 87 1 (dt3 80 (((5380 + (4 * p1)) + 1)).toNat)) 87 2 ((u2 dt3 87 1 (dt3 80 (((5380 + (4 * p1)) + 1)).toNat)) 80 (((5380 + (4 * p1)) + 2)).toNat)) 87 2 := rfl
  have w43 : (u2 (u2 (u2 dt3 87 1 (dt3 80 (((5380 + (4 * p1)) + 1)).toNat)) 87 2 ((u2 dt3 87 1 (dt3 80 (((5380 + (4 * p1)) + 1)).toNat)) 80 (((5380 + (4 * p1)) + 2)).toNat)) 87 5 ((u2 (u2 dt3 87 1 (dt3 80 (((5380 + (4 * p1)) + 1)).toNat)) 87 2 ((u2 dt3 87 1 (dt3 80 (((5380 + (4 * p1)) + 1)).toNat)) 80 (((5380 + (4 * p1)) + 2)).toNat)) 80 (((5380 + (4 * p1)) + 3)).toNat)) 87 3 = (u2 (u2 dt3 87 1 (dt3 80 (((5380 + (4 * p1)) + 1)).toNat)) 87 2 ((u2 dt3 87 1 (dt3 80 (((5380 + (4 * p1)) + 1)).toNat)) 80 (((5380 + (4 * p1)) + 2)).toNat)) 87 3 := rfl
  have w44 : (u2 (u2 (u2 dt3 87 1 (dt3 80 (((5380 + (4 * p1)) + 1)).toNat)) 87 2 ((u2 dt3 87 1 (dt3 80 (((5380 + (4 * p1)) + 1)).toNat)) 80 (((5380 + (4 * p1)) + 2)).toNat)) 87 5 ((u2 (u2 dt3 87 1 (dt3 80 (((5380 + (4 * p1)) + 1)).toNat)) 87 2 ((u2 dt3 87 1 (dt3 80 (((5380 + (4 * p1)) + 1)).toNat)) 80 (((5380 + (4 * p1)) + 2)).toNat)) 80 (((5380 + (4 * p1)) + 3)).toNat)) 87 4 = (u2 (u2 dt3 87 1 (dt3 80 (((5380 + (4 * p1)) + 1)).toNat)) 87 2 ((u2 dt3 87 1 (dt3 80 (((5380 + (4 * p1)) + 1)).toNat)) 80 (((5380 + (4 * p1)) + 2)).toNat)) 87 4 := rfl
  have w45 : (u2 (u2 (u2 dt3 87 1 (dt3 80 (((5380 + (4 * p1)) + 1)).toNat)) 87 2 ((u2 dt3 87 1 (dt3 80 (((5380 + (4 * p1)) + 1)).toNat)) 80 (((5380 + (4 * p1)) + 2)).toNat)) 87 5 ((u2 (u2 dt3 87 1 (dt3 80 (((5380 + (4 * p1)) + 1)).toNat)) 87 2 ((u2 dt3 87 1 (dt3 80 (((5380 + (4 * p1)) + 1)).toNat)) 80 (((5380 + (4 * p1)) + 2)).toNat)) 80 (((5380 + (4 * p1)) + 3)).toNat)) 87 5 = (u2 (u2 dt3 87 1 (dt3 80 (((5380 + (4 * p1)) + 1)).toNat)) 87 2 ((u2 dt3 87 1 (dt3 80 (((5380 + (4 * p1)) + 1)).toNat)) 80 (((5380 + (4 * p1)) + 2)).toNat)) 80 (((5380 + (4 * p1)) + 3)).toNat := rfl
  have w46 : (u2 (u2 (u2 dt3 87 1 (dt3 80 (((5380 + (4 * p1)) + 1)).toNat)) 87 2 ((u2 dt3 87 1 (dt3 80 (((5380 + (4 * p1)) + 1)).toNat)) 80 (((5380 + (4 * p1)) + 2)).toNat)) 87 5 ((u2 (u2 dt3 87 1 (dt3 80 (((5380 + (4 * p1)) + 1)).toNat)) 87 2 ((u2 dt3 87 1 (dt3 80 (((5380 + (4 * p1)) + 1)).toNat)) 80 (((5380 + (4 * p1)) + 2)).toNat)) 80 (((5380 + (4 * p1)) + 3)).toNat)) 87 6 = (u2 (u2 dt3 87 1 (dt3 80 (((5380 + (4 * p1)) + 1)).toNat)) 87 2 ((u2 dt3 87 1 (dt3 80 (((5380 + (4 * p1)) + 1)).toNat)) 80 (((5380 + (4 * p1)) + 2)).toNat)) 87 6 := rfl
  have ve47 : VR (u2 (u2 (u2 dt3 87 1 (dt3 80 (((5380 + (4 * p1)) + 1)).toNat)) 87 2 ((u2 dt3 87 1 (dt3 80 (((5380 + (4 * p1)) + 1)).toNat)) 80 (((5380 + (4 * p1)) + 2)).toNat)) 87 5 ((u2 (u2 dt3 87 1 (dt3 80 (((5380 + (4 * p1)) + 1)).toNat)) 87 2 ((u2 dt3 87 1 (dt3 80 (((5380 + (4 * p1)) + 1)).toNat)) 80 (((5380 + (4 * p1)) + 2)).toNat)) 80 (((5380 + (4 * p1)) + 3)).toNat)) = wend (dt 80) (dt 80 (5320 + 5 * p2.toNat)) := (VR_x (by decide)).trans ve36
  refine go_smp (L' := [some (.inr (.inr (some 79))), some (.inl p1), some (.inl p2), some (.inl p3)]) (st' := []) (w' := (SH, (u2 (u2 (u2 dt3 87 1 (dt3 80 (((5380 + (4 * p1)) + 1)).toNat)) 87 2 ((u2 dt3 87 1 (dt3 80 (((5380 + (4 * p1)) + 1)).toNat)) 80 (((5380 + (4 * p1)) + 2)).toNat)) 87 5 ((u2 (u2 dt3 87 1 (dt3 80 (((5380 + (4 * p1)) + 1)).toNat)) 87 2 ((u2 dt3 87 1 (dt3 80 (((5380 + (4 * p1)) + 1)).toNat)) 80 (((5380 + (4 * p1)) + 2)).toNat)) 80 (((5380 + (4 * p1)) + 3)).toNat)))) rfl rfl (s_iast (n := 7) rfl ⟨by omega, by omega⟩ ⟨by omega, by omega⟩) ?_
  refine go_to (k := 4) (pc' := 52) (L' := [some (.inr (.inr (some 79))), some (.inl p1), some (.inl p2), some (.inl p3)]) (st' := [.inl p3, .inl 3, .inr (.inr (some 87))]) (w' := (SH, (u2 (u2 (u2 dt3 87 1 (dt3 80 (((5380 + (4 * p1)) + 1)).toNat)) 87 2 ((u2 dt3 87 1 (dt3 80 (((5380 + (4 * p1)) + 1)).toNat)) 80 (((5380 + (4 * p1)) + 2)).toNat)) 87 5 ((u2 (u2 dt3 87 1 (dt3 80 (((5380 + (4 * p1)) + 1)).toNat)) 87 2 ((u2 dt3 87 1 (dt3 80 (((5380 + (4 * p1)) + 1)).toNat)) 80 (((5380 + (4 * p1)) + 2)).toNat)) 80 (((5380 + (4 * p1)) + 3)).toNat)))) (fun _ => rfl) ?_
  have hI48 : InvC (u2 (u2 (u2 (u2 dt3 87 1 (dt3 80 (((5380 + (4 * p1)) + 1)).toNat)) 87 2 ((u2 dt3 87 1 (dt3 80 (((5380 + (4 * p1)) + 1)).toNat)) 80 (((5380 + (4 * p1)) + 2)).toNat)) 87 5 ((u2 (u2 dt3 87 1 (dt3 80 (((5380 + (4 * p1)) + 1)).toNat)) 87 2 ((u2 dt3 87 1 (dt3 80 (((5380 + (4 * p1)) + 1)).toNat)) 80 (((5380 + (4 * p1)) + 2)).toNat)) 80 (((5380 + (4 * p1)) + 3)).toNat)) 87 3 p3) := InvC_u2 hI39 (lo := -2147483648) (hi := 2147483647) rfl rfl rfl (by omega) (by omega)
  have hF49 : Fr [87, 88, 89, 90, 91, 92, 93, 94, 95, 96, 97, 98, 99, 100] dt (u2 (u2 (u2 (u2 dt3 87 1 (dt3 80 (((5380 + (4 * p1)) + 1)).toNat)) 87 2 ((u2 dt3 87 1 (dt3 80 (((5380 + (4 * p1)) + 1)).toNat)) 80 (((5380 + (4 * p1)) + 2)).toNat)) 87 5 ((u2 (u2 dt3 87 1 (dt3 80 (((5380 + (4 * p1)) + 1)).toNat)) 87 2 ((u2 dt3 87 1 (dt3 80 (((5380 + (4 * p1)) + 1)).toNat)) 80 (((5380 + (4 * p1)) + 2)).toNat)) 80 (((5380 + (4 * p1)) + 3)).toNat)) 87 3 p3) := Fr_u2 hF40 (by decide)
  have w50 : (u2 (u2 (u2 (u2 dt3 87 1 (dt3 80 (((5380 + (4 * p1)) + 1)).toNat)) 87 2 ((u2 dt3 87 1 (dt3 80 (((5380 + (4 * p1)) + 1)).toNat)) 80 (((5380 + (4 * p1)) + 2)).toNat)) 87 5 ((u2 (u2 dt3 87 1 (dt3 80 (((5380 + (4 * p1)) + 1)).toNat)) 87 2 ((u2 dt3 87 1 (dt3 80 (((5380 + (4 * p1)) + 1)).toNat)) 80 (((5380 + (4 * p1)) + 2)).toNat)) 80 (((5380 + (4 * p1)) + 3)).toNat)) 87 3 p3) 87 1 = (u2 (u2 (u2 dt3 87 1 (dt3 80 (((5380 + (4 * p1)) + 1)).toNat)) 87 2 ((u2 dt3 87 1 (dt3 80 (((5380 + (4 * p1)) + 1)).toNat)) 80 (((5380 + (4 * p1)) + 2)).toNat)) 87 5 ((u2 (u2 dt3 87 1 (dt3 80 (((5380 + (4 * p1)) + 1)).toNat)) 87 2 ((u2 dt3 87 1 (dt3 80 (((5380 + (4 * p1)) + 1)).toNat)) 80 (((5380 + (4 * p1)) + 2)).toNat)) 80 (((5380 + (4 * p1)) + 3)).toNat)) 87 1 := rfl
  have w51 : (u2 (u2 (u2 (u2 dt3 87 1 (dt3 80 (((5380 + (4 * p1)) + 1)).toNat)) 87 2 ((u2 dt3 87 1 (dt3 80 (((5380 + (4 * p1)) + 1)).toNat)) 80 (((5380 + (4 * p1)) + 2)).toNat)) 87 5 ((u2 (u2 dt3 87 1 (dt3 80 (((5380 + (4 * p1)) + 1)).toNat)) 87 2 ((u2 dt3 87 1 (dt3 80 (((5380 + (4 * p1)) + 1)).toNat)) 80 (((5380 + (4 * p1)) + 2)).toNat)) 80 (((5380 + (4 * p1)) + 3)).toNat)) 87 3 p3) 87 2 = (u2 (u2 (u2 dt3 87 1 (dt3 80 (((5380 + (4 * p1)) + 1)).toNat)) 87 2 ((u2 dt3 87 1 (dt3 80 (((5380 + (4 * p1)) + 1)).toNat)) 80 (((5380 + (4 * p1)) + 2)).toNat)) 87 5 ((u2 (u2 dt3 87 1 (dt3 80 (((5380 + (4 * p1)) + 1)).toNat)) 87 2 ((u2 dt3 87 1 (dt3 80 (((5380 + (4 * p1)) + 1)).toNat)) 80 (((5380 + (4 * p1)) + 2)).toNat)) 80 (((5380 + (4 * p1)) + 3)).toNat)) 87 2 := rfl
  have w52 : (u2 (u2 (u2 (u2 dt3 87 1 (dt3 80 (((5380 + (4 * p1)) + 1)).toNat)) 87 2 ((u2 dt3 87 1 (dt3 80 (((5380 + (4 * p1)) + 1)).toNat)) 80 (((5380 + (4 * p1)) + 2)).toNat)) 87 5 ((u2 (u2 dt3 87 1 (dt3 80 (((5380 + (4 * p1)) + 1)).toNat)) 87 2 ((u2 dt3 87 1 (dt3 80 (((5380 + (4 * p1)) + 1)).toNat)) 80 (((5380 + (4 * p1)) + 2)).toNat)) 80 (((5380 + (4 * p1)) + 3)).toNat)) 87 3 p3) 87 3 = p3 := rfl
  have w53 : (u2 (u2 (u2 (u2 dt3 87 1 (dt3 80 (((5380 + (4 * p1)) + 1)).toNat)) 87 2 ((u2 dt3 87 1 (dt3 80 (((5380 + (4 * p1)) + 1)).toNat)) 80 (((5380 + (4 * p1)) + 2)).toNat)) 87 5 ((u2 (u2 dt3 87 1 (dt3 80 (((5380 + (4 * p1)) + 1)).toNat)) 87 2 ((u2 dt3 87 1 (dt3 80 (((5380 + (4 * p1)) + 1)).toNat)) 80 (((5380 + (4 * p1)) + 2)).toNat)) 80 (((5380 + (4 * p1)) + 3)).toNat)) 87 3 p3) 87 4 = (u2 (u2 (u2 dt3 87 1 (dt3 80 (((5380 + (4 * p1)) + 1)).toNat)) 87 2 ((u2 dt3 87 1 (dt3 80 (((5380 + (4 * p1)) + 1)).toNat)) 80 (((5380 + (4 * p1)) + 2)).toNat)) 87 5 ((u2 (u2 dt3 87 1 (dt3 80 (((5380 + (4 * p1)) + 1)).toNat)) 87 2 ((u2 dt3 87 1 (dt3 80 (((5380 + (4 * p1)) + 1)).toNat)) 80 (((5380 + (4 * p1)) + 2)).toNat)) 80 (((5380 + (4 * p1)) + 3)).toNat)) 87 4 := rfl
  have w54 : (u2 (u2 (u2 (u2 dt3 87 1 (dt3 80 (((5380 + (4 * p1)) + 1)).toNat)) 87 2 ((u2 dt3 87 1 (dt3 80 (((5380 + (4 * p1)) + 1)).toNat)) 80 (((5380 + (4 * p1)) + 2)).toNat)) 87 5 ((u2 (u2 dt3 87 1 (dt3 80 (((5380 + (4 * p1)) + 1)).toNat)) 87 2 ((u2 dt3 87 1 (dt3 80 (((5380 + (4 * p1)) + 1)).toNat)) 80 (((5380 + (4 * p1)) + 2)).toNat)) 80 (((5380 + (4 * p1)) + 3)).toNat)) 87 3 p3) 87 5 = (u2 (u2 (u2 dt3 87 1 (dt3 80 (((5380 + (4 * p1)) + 1)).toNat)) 87 2 ((u2 dt3 87 1 (dt3 80 (((5380 + (4 * p1)) + 1)).toNat)) 80 (((5380 + (4 * p1)) + 2)).toNat)) 87 5 ((u2 (u2 dt3 87 1 (dt3 80 (((5380 + (4 * p1)) + 1)).toNat)) 87 2 ((u2 dt3 87 1 (dt3 80 (((5380 + (4 * p1)) + 1)).toNat)) 80 (((5380 + (4 * p1)) + 2)).toNat)) 80 (((5380 + (4 * p1)) + 3)).toNat)) 87 5 := rfl
  have w55 : (u2 (u2 (u2 (u2 dt3 87 1 (dt3 80 (((5380 + (4 * p1)) + 1)).toNat)) 87 2 ((u2 dt3 87 1 (dt3 80 (((5380 + (4 * p1)) + 1)).toNat)) 80 (((5380 + (4 * p1)) + 2)).toNat)) 87 5 ((u2 (u2 dt3 87 1 (dt3 80 (((5380 + (4 * p1)) + 1)).toNat)) 87 2 ((u2 dt3 87 1 (dt3 80 (((5380 + (4 * p1)) + 1)).toNat)) 80 (((5380 + (4 * p1)) + 2)).toNat)) 80 (((5380 + (4 * p1)) + 3)).toNat)) 87 3 p3) 87 6 = (u2 (u2 (u2 dt3 87 1 (dt3 80 (((5380 + (4 * p1)) + 1)).toNat)) 87 2 ((u2 dt3 87 1 (dt3 80 (((5380 + (4 * p1)) + 1)).toNat)) 80 (((5380 + (4 * p1)) + 2)).toNat)) 87 5 ((u2 (u2 dt3 87 1 (dt3 80 (((5380 + (4 * p1)) + 1)).toNat)) 87 2 ((u2 dt3 87 1 (dt3 80 (((5380 + (4 * p1)) + 1)).toNat)) 80 (((5380 + (4 * p1)) + 2)).toNat)) 80 (((5380 + (4 * p1)) + 3)).toNat)) 87 6 := rfl
  have ve56 : VR (u2 (u2 (u2 (u2 dt3 87 1 (dt3 80 (((5380 + (4 * p1)) + 1)).toNat)) 87 2 ((u2 dt3 87 1 (dt3 80 (((5380 + (4 * p1)) + 1)).toNat)) 80 (((5380 + (4 * p1)) + 2)).toNat)) 87 5 ((u2 (u2 dt3 87 1 (dt3 80 (((5380 + (4 * p1)) + 1)).toNat)) 87 2 ((u2 dt3 87 1 (dt3 80 (((5380 + (4 * p1)) + 1)).toNat)) 80 (((5380 + (4 * p1)) + 2)).toNat)) 80 (((5380 + (4 * p1)) + 3)).toNat)) 87 3 p3) = wend (dt 80) (dt 80 (5320 + 5 * p2.toNat)) := (VR_x (by decide)).trans ve47
  refine go_smp (L' := [some (.inr (.inr (some 79))), some (.inl p1), some (.inl p2), some (.inl p3)]) (st' := []) (w' := (SH, (u2 (u2 (u2 (u2 dt3 87 1 (dt3 80 (((5380 + (4 * p1)) + 1)).toNat)) 87 2 ((u2 dt3 87 1 (dt3 80 (((5380 + (4 * p1)) + 1)).toNat)) 80 (((5380 + (4 * p1)) + 2)).toNat)) 87 5 ((u2 (u2 dt3 87 1 (dt3 80 (((5380 + (4 * p1)) + 1)).toNat)) 87 2 ((u2 dt3 87 1 (dt3 80 (((5380 + (4 * p1)) + 1)).toNat)) 80 (((5380 + (4 * p1)) + 2)).toNat)) 80 (((5380 + (4 * p1)) + 3)).toNat)) 87 3 p3))) rfl rfl (s_iast (n := 7) rfl ⟨by omega, by omega⟩ ⟨by omega, by omega⟩) ?_
  refine go_to (k := 6) (pc' := 63) (L' := [some (.inr (.inr (some 79))), some (.inl p1), some (.inl p2), some (.inl p3)]) (st' := [.inl 0, .inr (.inr (some 93)), .inl 4, .inr (.inr (some 87))]) (w' := (SH, (u2 (u2 (u2 (u2 dt3 87 1 (dt3 80 (((5380 + (4 * p1)) + 1)).toNat)) 87 2 ((u2 dt3 87 1 (dt3 80 (((5380 + (4 * p1)) + 1)).toNat)) 80 (((5380 + (4 * p1)) + 2)).toNat)) 87 5 ((u2 (u2 dt3 87 1 (dt3 80 (((5380 + (4 * p1)) + 1)).toNat)) 87 2 ((u2 dt3 87 1 (dt3 80 (((5380 + (4 * p1)) + 1)).toNat)) 80 (((5380 + (4 * p1)) + 2)).toNat)) 80 (((5380 + (4 * p1)) + 3)).toNat)) 87 3 p3))) (fun _ => rfl) ?_
  have r57 : (-2147483648) ≤ dt3 93 0 ∧ dt3 93 0 ≤ 2147483647 := InvC_get hI4 93 0 rfl rfl
  refine go_smp (L' := [some (.inr (.inr (some 79))), some (.inl p1), some (.inl p2), some (.inl p3)]) (st' := [.inl (dt3 93 0), .inl 4, .inr (.inr (some 87))]) (w' := (SH, (u2 (u2 (u2 (u2 dt3 87 1 (dt3 80 (((5380 + (4 * p1)) + 1)).toNat)) 87 2 ((u2 dt3 87 1 (dt3 80 (((5380 + (4 * p1)) + 1)).toNat)) 80 (((5380 + (4 * p1)) + 2)).toNat)) 87 5 ((u2 (u2 dt3 87 1 (dt3 80 (((5380 + (4 * p1)) + 1)).toNat)) 87 2 ((u2 dt3 87 1 (dt3 80 (((5380 + (4 * p1)) + 1)).toNat)) 80 (((5380 + (4 * p1)) + 2)).toNat)) 80 (((5380 + (4 * p1)) + 3)).toNat)) 87 3 p3))) rfl rfl (s_iald (n := 3) (f := (u2 (u2 (u2 (u2 dt3 87 1 (dt3 80 (((5380 + (4 * p1)) + 1)).toNat)) 87 2 ((u2 dt3 87 1 (dt3 80 (((5380 + (4 * p1)) + 1)).toNat)) 80 (((5380 + (4 * p1)) + 2)).toNat)) 87 5 ((u2 (u2 dt3 87 1 (dt3 80 (((5380 + (4 * p1)) + 1)).toNat)) 87 2 ((u2 dt3 87 1 (dt3 80 (((5380 + (4 * p1)) + 1)).toNat)) 80 (((5380 + (4 * p1)) + 2)).toNat)) 80 (((5380 + (4 * p1)) + 3)).toNat)) 87 3 p3) 93) rfl ⟨by omega, by omega⟩) ?_
  refine go_to (k := 3) (pc' := 69) (L' := [some (.inr (.inr (some 79))), some (.inl p1), some (.inl p2), some (.inl p3)]) (st' := [.inl 1, .inr (.inr (some 93)), .inl (dt3 93 0), .inl 4, .inr (.inr (some 87))]) (w' := (SH, (u2 (u2 (u2 (u2 dt3 87 1 (dt3 80 (((5380 + (4 * p1)) + 1)).toNat)) 87 2 ((u2 dt3 87 1 (dt3 80 (((5380 + (4 * p1)) + 1)).toNat)) 80 (((5380 + (4 * p1)) + 2)).toNat)) 87 5 ((u2 (u2 dt3 87 1 (dt3 80 (((5380 + (4 * p1)) + 1)).toNat)) 87 2 ((u2 dt3 87 1 (dt3 80 (((5380 + (4 * p1)) + 1)).toNat)) 80 (((5380 + (4 * p1)) + 2)).toNat)) 80 (((5380 + (4 * p1)) + 3)).toNat)) 87 3 p3))) (fun _ => rfl) ?_
  have r58 : (-2147483648) ≤ dt3 93 1 ∧ dt3 93 1 ≤ 2147483647 := InvC_get hI4 93 1 rfl rfl
  refine go_smp (L' := [some (.inr (.inr (some 79))), some (.inl p1), some (.inl p2), some (.inl p3)]) (st' := [.inl (dt3 93 1), .inl (dt3 93 0), .inl 4, .inr (.inr (some 87))]) (w' := (SH, (u2 (u2 (u2 (u2 dt3 87 1 (dt3 80 (((5380 + (4 * p1)) + 1)).toNat)) 87 2 ((u2 dt3 87 1 (dt3 80 (((5380 + (4 * p1)) + 1)).toNat)) 80 (((5380 + (4 * p1)) + 2)).toNat)) 87 5 ((u2 (u2 dt3 87 1 (dt3 80 (((5380 + (4 * p1)) + 1)).toNat)) 87 2 ((u2 dt3 87 1 (dt3 80 (((5380 + (4 * p1)) + 1)).toNat)) 80 (((5380 + (4 * p1)) + 2)).toNat)) 80 (((5380 + (4 * p1)) + 3)).toNat)) 87 3 p3))) rfl rfl (s_iald (n := 3) (f := (u2 (u2 (u2 (u2 dt3 87 1 (dt3 80 (((5380 + (4 * p1)) + 1)).toNat)) 87 2 ((u2 dt3 87 1 (dt3 80 (((5380 + (4 * p1)) + 1)).toNat)) 80 (((5380 + (4 * p1)) + 2)).toNat)) 87 5 ((u2 (u2 dt3 87 1 (dt3 80 (((5380 + (4 * p1)) + 1)).toNat)) 87 2 ((u2 dt3 87 1 (dt3 80 (((5380 + (4 * p1)) + 1)).toNat)) 80 (((5380 + (4 * p1)) + 2)).toNat)) 80 (((5380 + (4 * p1)) + 3)).toNat)) 87 3 p3) 93) rfl ⟨by omega, by omega⟩) ?_
  refine go_to (k := 4) (pc' := 76) (L' := [some (.inr (.inr (some 79))), some (.inl p1), some (.inl p2), some (.inl p3)]) (st' := [.inl 2, .inr (.inr (some 93)), .inl ((dt3 93 0) + (dt3 93 1)), .inl 4, .inr (.inr (some 87))]) (w' := (SH, (u2 (u2 (u2 (u2 dt3 87 1 (dt3 80 (((5380 + (4 * p1)) + 1)).toNat)) 87 2 ((u2 dt3 87 1 (dt3 80 (((5380 + (4 * p1)) + 1)).toNat)) 80 (((5380 + (4 * p1)) + 2)).toNat)) 87 5 ((u2 (u2 dt3 87 1 (dt3 80 (((5380 + (4 * p1)) + 1)).toNat)) 87 2 ((u2 dt3 87 1 (dt3 80 (((5380 + (4 * p1)) + 1)).toNat)) 80 (((5380 + (4 * p1)) + 2)).toNat)) 80 (((5380 + (4 * p1)) + 3)).toNat)) 87 3 p3))) (fun _ => rfl) ?_
  have r59 : (-2147483648) ≤ dt3 93 2 ∧ dt3 93 2 ≤ 2147483647 := InvC_get hI4 93 2 rfl rfl
  refine go_smp (L' := [some (.inr (.inr (some 79))), some (.inl p1), some (.inl p2), some (.inl p3)]) (st' := [.inl (dt3 93 2), .inl ((dt3 93 0) + (dt3 93 1)), .inl 4, .inr (.inr (some 87))]) (w' := (SH, (u2 (u2 (u2 (u2 dt3 87 1 (dt3 80 (((5380 + (4 * p1)) + 1)).toNat)) 87 2 ((u2 dt3 87 1 (dt3 80 (((5380 + (4 * p1)) + 1)).toNat)) 80 (((5380 + (4 * p1)) + 2)).toNat)) 87 5 ((u2 (u2 dt3 87 1 (dt3 80 (((5380 + (4 * p1)) + 1)).toNat)) 87 2 ((u2 dt3 87 1 (dt3 80 (((5380 + (4 * p1)) + 1)).toNat)) 80 (((5380 + (4 * p1)) + 2)).toNat)) 80 (((5380 + (4 * p1)) + 3)).toNat)) 87 3 p3))) rfl rfl (s_iald (n := 3) (f := (u2 (u2 (u2 (u2 dt3 87 1 (dt3 80 (((5380 + (4 * p1)) + 1)).toNat)) 87 2 ((u2 dt3 87 1 (dt3 80 (((5380 + (4 * p1)) + 1)).toNat)) 80 (((5380 + (4 * p1)) + 2)).toNat)) 87 5 ((u2 (u2 dt3 87 1 (dt3 80 (((5380 + (4 * p1)) + 1)).toNat)) 87 2 ((u2 dt3 87 1 (dt3 80 (((5380 + (4 * p1)) + 1)).toNat)) 80 (((5380 + (4 * p1)) + 2)).toNat)) 80 (((5380 + (4 * p1)) + 3)).toNat)) 87 3 p3) 93) rfl ⟨by omega, by omega⟩) ?_
  refine go_to (k := 1) (pc' := 78) (L' := [some (.inr (.inr (some 79))), some (.inl p1), some (.inl p2), some (.inl p3)]) (st' := [.inl (((dt3 93 0) + (dt3 93 1)) + (dt3 93 2)), .inl 4, .inr (.inr (some 87))]) (w' := (SH, (u2 (u2 (u2 (u2 dt3 87 1 (dt3 80 (((5380 + (4 * p1)) + 1)).toNat)) 87 2 ((u2 dt3 87 1 (dt3 80 (((5380 + (4 * p1)) + 1)).toNat)) 80 (((5380 + (4 * p1)) + 2)).toNat)) 87 5 ((u2 (u2 dt3 87 1 (dt3 80 (((5380 + (4 * p1)) + 1)).toNat)) 87 2 ((u2 dt3 87 1 (dt3 80 (((5380 + (4 * p1)) + 1)).toNat)) 80 (((5380 + (4 * p1)) + 2)).toNat)) 80 (((5380 + (4 * p1)) + 3)).toNat)) 87 3 p3))) (fun _ => rfl) ?_
  have r60 := wr_RR (((dt3 93 0) + (dt3 93 1)) + (dt3 93 2))
  have hI61 : InvC (u2 (u2 (u2 (u2 (u2 dt3 87 1 (dt3 80 (((5380 + (4 * p1)) + 1)).toNat)) 87 2 ((u2 dt3 87 1 (dt3 80 (((5380 + (4 * p1)) + 1)).toNat)) 80 (((5380 + (4 * p1)) + 2)).toNat)) 87 5 ((u2 (u2 dt3 87 1 (dt3 80 (((5380 + (4 * p1)) + 1)).toNat)) 87 2 ((u2 dt3 87 1 (dt3 80 (((5380 + (4 * p1)) + 1)).toNat)) 80 (((5380 + (4 * p1)) + 2)).toNat)) 80 (((5380 + (4 * p1)) + 3)).toNat)) 87 3 p3) 87 4 (wr (((dt3 93 0) + (dt3 93 1)) + (dt3 93 2)))) := InvC_u2 hI48 (lo := -2147483648) (hi := 2147483647) rfl rfl rfl (by omega) (by omega)
  have hF62 : Fr [87, 88, 89, 90, 91, 92, 93, 94, 95, 96, 97, 98, 99, 100] dt (u2 (u2 (u2 (u2 (u2 dt3 87 1 (dt3 80 (((5380 + (4 * p1)) + 1)).toNat)) 87 2 ((u2 dt3 87 1 (dt3 80 (((5380 + (4 * p1)) + 1)).toNat)) 80 (((5380 + (4 * p1)) + 2)).toNat)) 87 5 ((u2 (u2 dt3 87 1 (dt3 80 (((5380 + (4 * p1)) + 1)).toNat)) 87 2 ((u2 dt3 87 1 (dt3 80 (((5380 + (4 * p1)) + 1)).toNat)) 80 (((5380 + (4 * p1)) + 2)).toNat)) 80 (((5380 + (4 * p1)) + 3)).toNat)) 87 3 p3) 87 4 (wr (((dt3 93 0) + (dt3 93 1)) + (dt3 93 2)))) := Fr_u2 hF49 (by decide)
  have w63 : (u2 (u2 (u2 (u2 (u2 dt3 87 1 (dt3 80 (((5380 + (4 * p1)) + 1)).toNat)) 87 2 ((u2 dt3 87 1 (dt3 80 (((5380 + (4 * p1)) + 1)).toNat)) 80 (((5380 + (4 * p1)) + 2)).toNat)) 87 5 ((u2 (u2 dt3 87 1 (dt3 80 (((5380 + (4 * p1)) + 1)).toNat)) 87 2 ((u2 dt3 87 1 (dt3 80 (((5380 + (4 * p1)) + 1)).toNat)) 80 (((5380 + (4 * p1)) + 2)).toNat)) 80 (((5380 + (4 * p1)) + 3)).toNat)) 87 3 p3) 87 4 (wr (((dt3 93 0) + (dt3 93 1)) + (dt3 93 2)))) 87 1 = (u2 (u2 (u2 (u2 dt3 87 1 (dt3 80 (((5380 + (4 * p1)) + 1)).toNat)) 87 2 ((u2 dt3 87 1 (dt3 80 (((5380 + (4 * p1)) + 1)).toNat)) 80 (((5380 + (4 * p1)) + 2)).toNat)) 87 5 ((u2 (u2 dt3 87 1 (dt3 80 (((5380 + (4 * p1)) + 1)).toNat)) 87 2 ((u2 dt3 87 1 (dt3 80 (((5380 + (4 * p1)) + 1)).toNat)) 80 (((5380 + (4 * p1)) + 2)).toNat)) 80 (((5380 + (4 * p1)) + 3)).toNat)) 87 3 p3) 87 1 := rfl
  have w64 : (u2 (u2 (u2 (u2 (u2 dt3 87 1 (dt3 80 (((5380 + (4 * p1)) + 1)).toNat)) 87 2 ((u2 dt3 87 1 (dt3 80 (((5380 + (4 * p1)) + 1)).toNat)) 80 (((5380 + (4 * p1)) + 2)).toNat)) 87 5 ((u2 (u2 dt3 87 1 (dt3 80 (((5380 + (4 * p1)) + 1)).toNat)) 87 2 ((u2 dt3 87 1 (dt3 80 (((5380 + (4 * p1)) + 1)).toNat)) 80 (((5380 + (4 * p1)) + 2)).toNat)) 80 (((5380 + (4 * p1)) + 3)).toNat)) 87 3 p3) 87 4 (wr (((dt3 93 0) + (dt3 93 1)) + (dt3 93 2)))) 87 2 = (u2 (u2 (u2 (u2 dt3 87 1 (dt3 80 (((5380 + (4 * p1)) + 1)).toNat)) 87 2 ((u2 dt3 87 1 (dt3 80 (((5380 + (4 * p1)) + 1)).toNat)) 80 (((5380 + (4 * p1)) + 2)).toNat)) 87 5 ((u2 (u2 dt3 87 1 (dt3 80 (((5380 + (4 * p1)) + 1)).toNat)) 87 2 ((u2 dt3 87 1 (dt3 80 (((5380 + (4 * p1)) + 1)).toNat)) 80 (((5380 + (4 * p1)) + 2)).toNat)) 80 (((5380 + (4 * p1)) + 3)).toNat)) 87 3 p3) 87 2 := rfl
  have w65 : (u2 (u2 (u2 (u2 (u2 dt3 87 1 (dt3 80 (((5380 + (4 * p1)) + 1)).toNat)) 87 2 ((u2 dt3 87 1 (dt3 80 (((5380 + (4 * p1)) + 1)).toNat)) 80 (((5380 + (4 * p1)) + 2)).toNat)) 87 5 ((u2 (u2 dt3 87 1 (dt3 80 (((5380 + (4 * p1)) + 1)).toNat)) 87 2 ((u2 dt3 87 1 (dt3 80 (((5380 + (4 * p1)) + 1)).toNat)) 80 (((5380 + (4 * p1)) + 2)).toNat)) 80 (((5380 + (4 * p1)) + 3)).toNat)) 87 3 p3) 87 4 (wr (((dt3 93 0) + (dt3 93 1)) + (dt3 93 2)))) 87 3 = (u2 (u2 (u2 (u2 dt3 87 1 (dt3 80 (((5380 + (4 * p1)) + 1)).toNat)) 87 2 ((u2 dt3 87 1 (dt3 80 (((5380 + (4 * p1)) + 1)).toNat)) 80 (((5380 + (4 * p1)) + 2)).toNat)) 87 5 ((u2 (u2 dt3 87 1 (dt3 80 (((5380 + (4 * p1)) + 1)).toNat)) 87 2 ((u2 dt3 87 1 (dt3 80 (((5380 + (4 * p1)) + 1)).toNat)) 80 (((5380 + (4 * p1)) + 2)).toNat)) 80 (((5380 + (4 * p1)) + 3)).toNat)) 87 3 p3) 87 3 := rfl
  have w66 : (u2 (u2 (u2 (u2 (u2 dt3 87 1 (dt3 80 (((5380 + (4 * p1)) + 1)).toNat)) 87 2 ((u2 dt3 87 1 (dt3 80 (((5380 + (4 * p1)) + 1)).toNat)) 80 (((5380 + (4 * p1)) + 2)).toNat)) 87 5 ((u2 (u2 dt3 87 1 (dt3 80 (((5380 + (4 * p1)) + 1)).toNat)) 87 2 ((u2 dt3 87 1 (dt3 80 (((5380 + (4 * p1)) + 1)).toNat)) 80 (((5380 + (4 * p1)) + 2)).toNat)) 80 (((5380 + (4 * p1)) + 3)).toNat)) 87 3 p3) 87 4 (wr (((dt3 93 0) + (dt3 93 1)) + (dt3 93 2)))) 87 4 = wr (((dt3 93 0) + (dt3 93 1)) + (dt3 93 2)) := rfl
  have w67 : (u2 (u2 (u2 (u2 (u2 dt3 87 1 (dt3 80 (((5380 + (4 * p1)) + 1)).toNat)) 87 2 ((u2 dt3 87 1 (dt3 80 (((5380 + (4 * p1)) + 1)).toNat)) 80 (((5380 + (4 * p1)) + 2)).toNat)) 87 5 ((u2 (u2 dt3 87 1 (dt3 80 (((5380 + (4 * p1)) + 1)).toNat)) 87 2 ((u2 dt3 87 1 (dt3 80 (((5380 + (4 * p1)) + 1)).toNat)) 80 (((5380 + (4 * p1)) + 2)).toNat)) 80 (((5380 + (4 * p1)) + 3)).toNat)) 87 3 p3) 87 4 (wr (((dt3 93 0) + (dt3 93 1)) + (dt3 93 2)))) 87 5 = (u2 (u2 (u2 (u2 dt3 87 1 (dt3 80 (((5380 + (4 * p1)) + 1)).toNat)) 87 2 ((u2 dt3 87 1 (dt3 80 (((5380 + (4 * p1)) + 1)).toNat)) 80 (((5380 + (4 * p1)) + 2)).toNat)) 87 5 ((u2 (u2 dt3 87 1 (dt3 80 (((5380 + (4 * p1)) + 1)).toNat)) 87 2 ((u2 dt3 87 1 (dt3 80 (((5380 + (4 * p1)) + 1)).toNat)) 80 (((5380 + (4 * p1)) + 2)).toNat)) 80 (((5380 + (4 * p1)) + 3)).toNat)) 87 3 p3) 87 5 := rfl
  have w68 : (u2 (u2 (u2 (u2 (u2 dt3 87 1 (dt3 80 (((5380 + (4 * p1)) + 1)).toNat)) 87 2 ((u2 dt3 87 1 (dt3 80 (((5380 + (4 * p1)) + 1)).toNat)) 80 (((5380 + (4 * p1)) + 2)).toNat)) 87 5 ((u2 (u2 dt3 87 1 (dt3 80 (((5380 + (4 * p1)) + 1)).toNat)) 87 2 ((u2 dt3 87 1 (dt3 80 (((5380 + (4 * p1)) + 1)).toNat)) 80 (((5380 + (4 * p1)) + 2)).toNat)) 80 (((5380 + (4 * p1)) + 3)).toNat)) 87 3 p3) 87 4 (wr (((dt3 93 0) + (dt3 93 1)) + (dt3 93 2)))) 87 6 = (u2 (u2 (u2 (u2 dt3 87 1 (dt3 80 (((5380 + (4 * p1)) + 1)).toNat)) 87 2 ((u2 dt3 87 1 (dt3 80 (((5380 + (4 * p1)) + 1)).toNat)) 80 (((5380 + (4 * p1)) + 2)).toNat)) 87 5 ((u2 (u2 dt3 87 1 (dt3 80 (((5380 + (4 * p1)) + 1)).toNat)) 87 2 ((u2 dt3 87 1 (dt3 80 (((5380 + (4 * p1)) + 1)).toNat)) 80 (((5380 + (4 * p1)) + 2)).toNat)) 80 (((5380 + (4 * p1)) + 3)).toNat)) 87 3 p3) 87 6 := rfl
  have ve69 : VR (u2 (u2 (u2 (u2 (u2 dt3 87 1 (dt3 80 (((5380 + (4 * p1)) + 1)).toNat)) 87 2 ((u2 dt3 87 1 (dt3 80 (((5380 + (4 * p1)) + 1)).toNat)) 80 (((5380 + (4 * p1)) + 2)).toNat)) 87 5 ((u2 (u2 dt3 87 1 (dt3 80 (((5380 + (4 * p1)) + 1)).toNat)) 87 2 ((u2 dt3 87 1 (dt3 80 (((5380 + (4 * p1)) + 1)).toNat)) 80 (((5380 + (4 * p1)) + 2)).toNat)) 80 (((5380 + (4 * p1)) + 3)).toNat)) 87 3 p3) 87 4 (wr (((dt3 93 0) + (dt3 93 1)) + (dt3 93 2)))) = wend (dt 80) (dt 80 (5320 + 5 * p2.toNat)) := (VR_x (by decide)).trans ve56
  refine go_smp (L' := [some (.inr (.inr (some 79))), some (.inl p1), some (.inl p2), some (.inl p3)]) (st' := []) (w' := (SH, (u2 (u2 (u2 (u2 (u2 dt3 87 1 (dt3 80 (((5380 + (4 * p1)) + 1)).toNat)) 87 2 ((u2 dt3 87 1 (dt3 80 (((5380 + (4 * p1)) + 1)).toNat)) 80 (((5380 + (4 * p1)) + 2)).toNat)) 87 5 ((u2 (u2 dt3 87 1 (dt3 80 (((5380 + (4 * p1)) + 1)).toNat)) 87 2 ((u2 dt3 87 1 (dt3 80 (((5380 + (4 * p1)) + 1)).toNat)) 80 (((5380 + (4 * p1)) + 2)).toNat)) 80 (((5380 + (4 * p1)) + 3)).toNat)) 87 3 p3) 87 4 (wr (((dt3 93 0) + (dt3 93 1)) + (dt3 93 2)))))) rfl rfl (s_iastw (n := 7) rfl ⟨by omega, by omega⟩) ?_
  refine go_to (k := 6) (pc' := 88) (L' := [some (.inr (.inr (some 79))), some (.inl p1), some (.inl p2), some (.inl p3)]) (st' := [.inl 1, .inl p2, .inr (.inr (some 79)), .inl 6, .inr (.inr (some 87))]) (w' := (SH, (u2 (u2 (u2 (u2 (u2 dt3 87 1 (dt3 80 (((5380 + (4 * p1)) + 1)).toNat)) 87 2 ((u2 dt3 87 1 (dt3 80 (((5380 + (4 * p1)) + 1)).toNat)) 80 (((5380 + (4 * p1)) + 2)).toNat)) 87 5 ((u2 (u2 dt3 87 1 (dt3 80 (((5380 + (4 * p1)) + 1)).toNat)) 87 2 ((u2 dt3 87 1 (dt3 80 (((5380 + (4 * p1)) + 1)).toNat)) 80 (((5380 + (4 * p1)) + 2)).toNat)) 80 (((5380 + (4 * p1)) + 3)).toNat)) 87 3 p3) 87 4 (wr (((dt3 93 0) + (dt3 93 1)) + (dt3 93 2)))))) (fun _ => rfl) ?_
  refine go_call (Q' := _) rfl rfl rfl rfl rfl (sp_X6_asked_1 L xs sio (d + 4) (u2 (u2 (u2 (u2 (u2 dt3 87 1 (dt3 80 (((5380 + (4 * p1)) + 1)).toNat)) 87 2 ((u2 dt3 87 1 (dt3 80 (((5380 + (4 * p1)) + 1)).toNat)) 80 (((5380 + (4 * p1)) + 2)).toNat)) 87 5 ((u2 (u2 dt3 87 1 (dt3 80 (((5380 + (4 * p1)) + 1)).toNat)) 87 2 ((u2 dt3 87 1 (dt3 80 (((5380 + (4 * p1)) + 1)).toNat)) 80 (((5380 + (4 * p1)) + 2)).toNat)) 80 (((5380 + (4 * p1)) + 3)).toNat)) 87 3 p3) 87 4 (wr (((dt3 93 0) + (dt3 93 1)) + (dt3 93 2)))) hI61 (MW_fr hM hF62 (by decide))  p2 ⟨by omega, by omega⟩ ) ?_
  rintro _ _ ⟨rfl, h70⟩
  refine ⟨rfl, ?_⟩
  rcases h70 with ⟨rfl, h70⟩
  have ef71 : (u2 (u2 (u2 (u2 (u2 dt3 87 1 (dt3 80 (((5380 + (4 * p1)) + 1)).toNat)) 87 2 ((u2 dt3 87 1 (dt3 80 (((5380 + (4 * p1)) + 1)).toNat)) 80 (((5380 + (4 * p1)) + 2)).toNat)) 87 5 ((u2 (u2 dt3 87 1 (dt3 80 (((5380 + (4 * p1)) + 1)).toNat)) 87 2 ((u2 dt3 87 1 (dt3 80 (((5380 + (4 * p1)) + 1)).toNat)) 80 (((5380 + (4 * p1)) + 2)).toNat)) 80 (((5380 + (4 * p1)) + 3)).toNat)) 87 3 p3) 87 4 (wr (((dt3 93 0) + (dt3 93 1)) + (dt3 93 2)))) 80 (((5320 + (5 * p2)) + 1)).toNat = dt 80 (((5320 + (5 * p2)) + 1)).toNat := hF62 80 (by decide) _
  have hI72 : InvC (u2 (u2 (u2 (u2 (u2 (u2 dt3 87 1 (dt3 80 (((5380 + (4 * p1)) + 1)).toNat)) 87 2 ((u2 dt3 87 1 (dt3 80 (((5380 + (4 * p1)) + 1)).toNat)) 80 (((5380 + (4 * p1)) + 2)).toNat)) 87 5 ((u2 (u2 dt3 87 1 (dt3 80 (((5380 + (4 * p1)) + 1)).toNat)) 87 2 ((u2 dt3 87 1 (dt3 80 (((5380 + (4 * p1)) + 1)).toNat)) 80 (((5380 + (4 * p1)) + 2)).toNat)) 80 (((5380 + (4 * p1)) + 3)).toNat)) 87 3 p3) 87 4 (wr (((dt3 93 0) + (dt3 93 1)) + (dt3 93 2)))) 87 6 ((u2 (u2 (u2 (u2 (u2 dt3 87 1 (dt3 80 (((5380 + (4 * p1)) + 1)).toNat)) 87 2 ((u2 dt3 87 1 (dt3 80 (((5380 + (4 * p1)) + 1)).toNat)) 80 (((5380 + (4 * p1)) + 2)).toNat)) 87 5 ((u2 (u2 dt3 87 1 (dt3 80 (((5380 + (4 * p1)) + 1)).toNat)) 87 2 ((u2 dt3 87 1 (dt3 80 (((5380 + (4 * p1)) + 1)).toNat)) 80 (((5380 + (4 * p1)) + 2)).toNat)) 80 (((5380 + (4 * p1)) + 3)).toNat)) 87 3 p3) 87 4 (wr (((dt3 93 0) + (dt3 93 1)) + (dt3 93 2)))) 80 (((5320 + (5 * p2)) + 1)).toNat)) := InvC_u2 hI61 (lo := -2147483648) (hi := 2147483647) rfl rfl rfl (by omega) (by omega)
  have hF73 : Fr [87, 88, 89, 90, 91, 92, 93, 94, 95, 96, 97, 98, 99, 100] dt (u2 (u2 (u2 (u2 (u2 (u2 dt3 87 1 (dt3 80 (((5380 + (4 * p1)) + 1)).toNat)) 87 2 ((u2 dt3 87 1 (dt3 80 (((5380 + (4 * p1)) + 1)).toNat)) 80 (((5380 + (4 * p1)) + 2)).toNat)) 87 5 ((u2 (u2 dt3 87 1 (dt3 80 (((5380 + (4 * p1)) + 1)).toNat)) 87 2 ((u2 dt3 87 1 (dt3 80 (((5380 + (4 * p1)) + 1)).toNat)) 80 (((5380 + (4 * p1)) + 2)).toNat)) 80 (((5380 + (4 * p1)) + 3)).toNat)) 87 3 p3) 87 4 (wr (((dt3 93 0) + (dt3 93 1)) + (dt3 93 2)))) 87 6 ((u2 (u2 (u2 (u2 (u2 dt3 87 1 (dt3 80 (((5380 + (4 * p1)) + 1)).toNat)) 87 2 ((u2 dt3 87 1 (dt3 80 (((5380 + (4 * p1)) + 1)).toNat)) 80 (((5380 + (4 * p1)) + 2)).toNat)) 87 5 ((u2 (u2 dt3 87 1 (dt3 80 (((5380 + (4 * p1)) + 1)).toNat)) 87 2 ((u2 dt3 87 1 (dt3 80 (((5380 + (4 * p1)) + 1)).toNat)) 80 (((5380 + (4 * p1)) + 2)).toNat)) 80 (((5380 + (4 * p1)) + 3)).toNat)) 87 3 p3) 87 4 (wr (((dt3 93 0) + (dt3 93 1)) + (dt3 93 2)))) 80 (((5320 + (5 * p2)) + 1)).toNat)) := Fr_u2 hF62 (by decide)
  have w74 : (u2 (u2 (u2 (u2 (u2 (u2 dt3 87 1 (dt3 80 (((5380 + (4 * p1)) + 1)).toNat)) 87 2 ((u2 dt3 87 1 (dt3 80 (((5380 + (4 * p1)) + 1)).toNat)) 80 (((5380 + (4 * p1)) + 2)).toNat)) 87 5 ((u2 (u2 dt3 87 1 (dt3 80 (((5380 + (4 * p1)) + 1)).toNat)) 87 2 ((u2 dt3 87 1 (dt3 80 (((5380 + (4 * p1)) + 1)).toNat)) 80 (((5380 + (4 * p1)) + 2)).toNat)) 80 (((5380 + (4 * p1)) + 3)).toNat)) 87 3 p3) 87 4 (wr (((dt3 93 0) + (dt3 93 1)) + (dt3 93 2)))) 87 6 ((u2 (u2 (u2 (u2 (u2 dt3 87 1 (dt3 80 (((5380 + (4 * p1)) + 1)).toNat)) 87 2 ((u2 dt3 87 1 (dt3 80 (((5380 + (4 * p1)) + 1)).toNat)) 80 (((5380 + (4 * p1)) + 2)).toNat)) 87 5 ((u2 (u2 dt3 87 1 (dt3 80 (((5380 + (4 * p1)) + 1)).toNat)) 87 2 ((u2 dt3 87 1 (dt3 80 (((5380 + (4 * p1)) + 1)).toNat)) 80 (((5380 + (4 * p1)) + 2)).toNat)) 80 (((5380 + (4 * p1)) + 3)).toNat)) 87 3 p3) 87 4 (wr (((dt3 93 0) + (dt3 93 1)) + (dt3 93 2)))) 80 (((5320 + (5 * p2)) + 1)).toNat)) 87 1 = (u2 (u2 (u2 (u2 (u2 dt3 87 1 (dt3 80 (((5380 + (4 * p1)) + 1)).toNat)) 87 2 ((u2 dt3 87 1 (dt3 80 (((5380 + (4 * p1)) + 1)).toNat)) 80 (((5380 + (4 * p1)) + 2)).toNat)) 87 5 ((u2 (u2 dt3 87 1 (dt3 80 (((5380 + (4 * p1)) + 1)).toNat)) 87 2 ((u2 dt3 87 1 (dt3 80 (((5380 + (4 * p1)) + 1)).toNat)) 80 (((5380 + (4 * p1)) + 2)).toNat)) 80 (((5380 + (4 * p1)) + 3)).toNat)) 87 3 p3) 87 4 (wr (((dt3 93 0) + (dt3 93 1)) + (dt3 93 2)))) 87 1 := rfl
  have w75 : (u2 (u2 (u2 (u2 (u2 (u2 dt3 87 1 (dt3 80 (((5380 + (4 * p1)) + 1)).toNat)) 87 2 ((u2 dt3 87 1 (dt3 80 (((5380 + (4 * p1)) + 1)).toNat)) 80 (((5380 + (4 * p1)) + 2)).toNat)) 87 5 ((u2 (u2 dt3 87 1 (dt3 80 (((5380 + (4 * p1)) + 1)).toNat)) 87 2 ((u2 dt3 87 1 (dt3 80 (((5380 + (4 * p1)) + 1)).toNat)) 80 (((5380 + (4 * p1)) + 2)).toNat)) 80 (((5380 + (4 * p1)) + 3)).toNat)) 87 3 p3) 87 4 (wr (((dt3 93 0) + (dt3 93 1)) + (dt3 93 2)))) 87 6 ((u2 (u2 (u2 (u2 (u2 dt3 87 1 (dt3 80 (((5380 + (4 * p1)) + 1)).toNat)) 87 2 ((u2 dt3 87 1 (dt3 80 (((5380 + (4 * p1)) + 1)).toNat)) 80 (((5380 + (4 * p1)) + 2)).toNat)) 87 5 ((u2 (u2 dt3 87 1 (dt3 80 (((5380 + (4 * p1)) + 1)).toNat)) 87 2 ((u2 dt3 87 1 (dt3 80 (((5380 + (4 * p1)) + 1)).toNat)) 80 (((5380 + (4 * p1)) + 2)).toNat)) 80 (((5380 + (4 * p1)) + 3)).toNat)) 87 3 p3) 87 4 (wr (((dt3 93 0) + (dt3 93 1)) + (dt3 93 2)))) 80 (((5320 + (5 * p2)) + 1)).toNat)) 87 2 = (u2 (u2 (u2 (u2 (u2 dt3 87 1 (dt3 80 (((5380 + (4 * p1)) + 1)).toNat)) 87 2 ((u2 dt3 87 1 (dt3 80 (((5380 + (4 * p1)) + 1)).toNat)) 80 (((5380 + (4 * p1)) + 2)).toNat)) 87 5 ((u2 (u2 dt3 87 1 (dt3 80 (((5380 + (4 * p1)) + 1)).toNat)) 87 2 ((u2 dt3 87 1 (dt3 80 (((5380 + (4 * p1)) + 1)).toNat)) 80 (((5380 + (4 * p1)) + 2)).toNat)) 80 (((5380 + (4 * p1)) + 3)).toNat)) 87 3 p3) 87 4 (wr (((dt3 93 0) + (dt3 93 1)) + (dt3 93 2)))) 87 2 := rfl
  have w76 : (u2 (u2 (u2 (u2 (u2 (u2 dt3 87 1 (dt3 80 (((5380 + (4 * p1)) + 1)).toNat)) 87 2 ((u2 dt3 87 1 (dt3 80 (((5380 + (4 * p1)) + 1)).toNat)) 80 (((5380 + (4 * p1)) + 2)).toNat)) 87 5 ((u2 (u2 dt3 87 1 (dt3 80 (((5380 + (4 * p1)) + 1)).toNat)) 87 2 ((u2 dt3 87 1 (dt3 80 (((5380 + (4 * p1)) + 1)).toNat)) 80 (((5380 + (4 * p1)) + 2)).toNat)) 80 (((5380 + (4 * p1)) + 3)).toNat)) 87 3 p3) 87 4 (wr (((dt3 93 0) + (dt3 93 1)) + (dt3 93 2)))) 87 6 ((u2 (u2 (u2 (u2 (u2 dt3 87 1 (dt3 80 (((5380 + (4 * p1)) + 1)).toNat)) 87 2 ((u2 dt3 87 1 (dt3 80 (((5380 + (4 * p1)) + 1)).toNat)) 80 (((5380 + (4 * p1)) + 2)).toNat)) 87 5 ((u2 (u2 dt3 87 1 (dt3 80 (((5380 + (4 * p1)) + 1)).toNat)) 87 2 ((u2 dt3 87 1 (dt3 80 (((5380 + (4 * p1)) + 1)).toNat)) 80 (((5380 + (4 * p1)) + 2)).toNat)) 80 (((5380 + (4 * p1)) + 3)).toNat)) 87 3 p3) 87 4 (wr (((dt3 93 0) + (dt3 93 1)) + (dt3 93 2)))) 80 (((5320 + (5 * p2)) + 1)).toNat)) 87 3 = (u2 (u2 (u2 (u2 (u2 dt3 87 1 (dt3 80 (((5380 + (4 * p1)) + 1)).toNat)) 87 2 ((u2 dt3 87 1 (dt3 80 (((5380 + (4 * p1)) + 1)).toNat)) 80 (((5380 + (4 * p1)) + 2)).toNat)) 87 5 ((u2 (u2 dt3 87 1 (dt3 80 (((5380 + (4 * p1)) + 1)).toNat)) 87 2 ((u2 dt3 87 1 (dt3 80 (((5380 + (4 * p1)) + 1)).toNat)) 80 (((5380 + (4 * p1)) + 2)).toNat)) 80 (((5380 + (4 * p1)) + 3)).toNat)) 87 3 p3) 87 4 (wr (((dt3 93 0) + (dt3 93 1)) + (dt3 93 2)))) 87 3 := rfl
  have w77 : (u2 (u2 (u2 (u2 (u2 (u2 dt3 87 1 (dt3 80 (((5380 + (4 * p1)) + 1)).toNat)) 87 2 ((u2 dt3 87 1 (dt3 80 (((5380 + (4 * p1)) + 1)).toNat)) 80 (((5380 + (4 * p1)) + 2)).toNat)) 87 5 ((u2 (u2 dt3 87 1 (dt3 80 (((5380 + (4 * p1)) + 1)).toNat)) 87 2 ((u2 dt3 87 1 (dt3 80 (((5380 + (4 * p1)) + 1)).toNat)) 80 (((5380 + (4 * p1)) + 2)).toNat)) 80 (((5380 + (4 * p1)) + 3)).toNat)) 87 3 p3) 87 4 (wr (((dt3 93 0) + (dt3 93 1)) + (dt3 93 2)))) 87 6 ((u2 (u2 (u2 (u2 (u2 dt3 87 1 (dt3 80 (((5380 + (4 * p1)) + 1)).toNat)) 87 2 ((u2 dt3 87 1 (dt3 80 (((5380 + (4 * p1)) + 1)).toNat)) 80 (((5380 + (4 * p1)) + 2)).toNat)) 87 5 ((u2 (u2 dt3 87 1 (dt3 80 (((5380 + (4 * p1)) + 1)).toNat)) 87 2 ((u2 dt3 87 1 (dt3 80 (((5380 + (4 * p1)) + 1)).toNat)) 80 (((5380 + (4 * p1)) + 2)).toNat)) 80 (((5380 + (4 * p1)) + 3)).toNat)) 87 3 p3) 87 4 (wr (((dt3 93 0) + (dt3 93 1)) + (dt3 93 2)))) 80 (((5320 + (5 * p2)) + 1)).toNat)) 87 4 = (u2 (u2 (u2 (u2 (u2 dt3 87 1 (dt3 80 (((5380 + (4 * p1)) + 1)).toNat)) 87 2 ((u2 dt3 87 1 (dt3 80 (((5380 + (4 * p1)) + 1)).toNat)) 80 (((5380 + (4 * p1)) + 2)).toNat)) 87 5 ((u2 (u2 dt3 87 1 (dt3 80 (((5380 + (4 * p1)) + 1)).toNat)) 87 2 ((u2 dt3 87 1 (dt3 80 (((5380 + (4 * p1)) + 1)).toNat)) 80 (((5380 + (4 * p1)) + 2)).toNat)) 80 (((5380 + (4 * p1)) + 3)).toNat)) 87 3 p3) 87 4 (wr (((dt3 93 0) + (dt3 93 1)) + (dt3 93 2)))) 87 4 := rfl
  have w78 : (u2 (u2 (u2 (u2 (u2 (u2 dt3 87 1 (dt3 80 (((5380 + (4 * p1)) + 1)).toNat)) 87 2 ((u2 dt3 87 1 (dt3 80 (((5380 + (4 * p1)) + 1)).toNat)) 80 (((5380 + (4 * p1)) + 2)).toNat)) 87 5 ((u2 (u2 dt3 87 1 (dt3 80 (((5380 + (4 * p1)) + 1)).toNat)) 87 2 ((u2 dt3 87 1 (dt3 80 (((5380 + (4 * p1)) + 1)).toNat)) 80 (((5380 + (4 * p1)) + 2)).toNat)) 80 (((5380 + (4 * p1)) + 3)).toNat)) 87 3 p3) 87 4 (wr (((dt3 93 0) + (dt3 93 1)) + (dt3 93 2)))) 87 6 ((u2 (u2 (u2 (u2 (u2 dt3 87 1 (dt3 80 (((5380 + (4 * p1)) + 1)).toNat)) 87 2 ((u2 dt3 87 1 (dt3 80 (((5380 + (4 * p1)) + 1)).toNat)) 80 (((5380 + (4 * p1)) + 2)).toNat)) 87 5 ((u2 (u2 dt3 87 1 (dt3 80 (((5380 + (4 * p1)) + 1)).toNat)) 87 2 ((u2 dt3 87 1 (dt3 80 (((5380 + (4 * p1)) + 1)).toNat)) 80 (((5380 + (4 * p1)) + 2)).toNat)) 80 (((5380 + (4 * p1)) + 3)).toNat)) 87 3 p3) 87 4 (wr (((dt3 93 0) + (dt3 93 1)) + (dt3 93 2)))) 80 (((5320 + (5 * p2)) + 1)).toNat)) 87 5 = (u2 (u2 (u2 (u2 (u2 dt3 87 1 (dt3 80 (((5380 + (4 * p1)) + 1)).toNat)) 87 2 ((u2 dt3 87 1 (dt3 80 (((5380 + (4 * p1)) + 1)).toNat)) 80 (((5380 + (4 * p1)) + 2)).toNat)) 87 5 ((u2 (u2 dt3 87 1 (dt3 80 (((5380 + (4 * p1)) + 1)).toNat)) 87 2 ((u2 dt3 87 1 (dt3 80 (((5380 + (4 * p1)) + 1)).toNat)) 80 (((5380 + (4 * p1)) + 2)).toNat)) 80 (((5380 + (4 * p1)) + 3)).toNat)) 87 3 p3) 87 4 (wr (((dt3 93 0) + (dt3 93 1)) + (dt3 93 2)))) 87 5 := rfl
  have w79 : (u2 (u2 (u2 (u2 (u2 (u2 dt3 87 1 (dt3 80 (((5380 + (4 * p1)) + 1)).toNat)) 87 2 ((u2 dt3 87 1 (dt3 80 (((5380 + (4 * p1)) + 1)).toNat)) 80 (((5380 + (4 * p1)) + 2)).toNat)) 87 5 ((u2 (u2 dt3 87 1 (dt3 80 (((5380 + (4 * p1)) + 1)).toNat)) 87 2 ((u2 dt3 87 1 (dt3 80 (((5380 + (4 * p1)) + 1)).toNat)) 80 (((5380 + (4 * p1)) + 2)).toNat)) 80 (((5380 + (4 * p1)) + 3)).toNat)) 87 3 p3) 87 4 (wr (((dt3 93 0) + (dt3 93 1)) + (dt3 93 2)))) 87 6 ((u2 (u2 (u2 (u2 (u2 dt3 87 1 (dt3 80 (((5380 + (4 * p1)) + 1)).toNat)) 87 2 ((u2 dt3 87 1 (dt3 80 (((5380 + (4 * p1)) + 1)).toNat)) 80 (((5380 + (4 * p1)) + 2)).toNat)) 87 5 ((u2 (u2 dt3 87 1 (dt3 80 (((5380 + (4 * p1)) + 1)).toNat)) 87 2 ((u2 dt3 87 1 (dt3 80 (((5380 + (4 * p1)) + 1)).toNat)) 80 (((5380 + (4 * p1)) + 2)).toNat)) 80 (((5380 + (4 * p1)) + 3)).toNat)) 87 3 p3) 87 4 (wr (((dt3 93 0) + (dt3 93 1)) + (dt3 93 2)))) 80 (((5320 + (5 * p2)) + 1)).toNat)) 87 6 = (u2 (u2 (u2 (u2 (u2 dt3 87 1 (dt3 80 (((5380 + (4 * p1)) + 1)).toNat)) 87 2 ((u2 dt3 87 1 (dt3 80 (((5380 + (4 * p1)) + 1)).toNat)) 80 (((5380 + (4 * p1)) + 2)).toNat)) 87 5 ((u2 (u2 dt3 87 1 (dt3 80 (((5380 + (4 * p1)) + 1)).toNat)) 87 2 ((u2 dt3 87 1 (dt3 80 (((5380 + (4 * p1)) + 1)).toNat)) 80 (((5380 + (4 * p1)) + 2)).toNat)) 80 (((5380 + (4 * p1)) + 3)).toNat)) 87 3 p3) 87 4 (wr (((dt3 93 0) + (dt3 93 1)) + (dt3 93 2)))) 80 (((5320 + (5 * p2)) + 1)).toNat := rfl
  have ve80 : VR (u2 (u2 (u2 (u2 (u2 (u2 dt3 87 1 (dt3 80 (((5380 + (4 * p1)) + 1)).toNat)) 87 2 ((u2 dt3 87 1 (dt3 80 (((5380 + (4 * p1)) + 1)).toNat)) 80 (((5380 + (4 * p1)) + 2)).toNat)) 87 5 ((u2 (u2 dt3 87 1 (dt3 80 (((5380 + (4 * p1)) + 1)).toNat)) 87 2 ((u2 dt3 87 1 (dt3 80 (((5380 + (4 * p1)) + 1)).toNat)) 80 (((5380 + (4 * p1)) + 2)).toNat)) 80 (((5380 + (4 * p1)) + 3)).toNat)) 87 3 p3) 87 4 (wr (((dt3 93 0) + (dt3 93 1)) + (dt3 93 2)))) 87 6 ((u2 (u2 (u2 (u2 (u2 dt3 87 1 (dt3 80 (((5380 + (4 * p1)) + 1)).toNat)) 87 2 ((u2 dt3 87 1 (dt3 80 (((5380 + (4 * p1)) + 1)).toNat)) 80 (((5380 + (4 * p1)) + 2)).toNat)) 87 5 ((u2 (u2 dt3 87 1 (dt3 80 (((5380 + (4 * p1)) + 1)).toNat)) 87 2 ((u2 dt3 87 1 (dt3 80 (((5380 + (4 * p1)) + 1)).toNat)) 80 (((5380 + (4 * p1)) + 2)).toNat)) 80 (((5380 + (4 * p1)) + 3)).toNat)) 87 3 p3) 87 4 (wr (((dt3 93 0) + (dt3 93 1)) + (dt3 93 2)))) 80 (((5320 + (5 * p2)) + 1)).toNat)) = wend (dt 80) (dt 80 (5320 + 5 * p2.toNat)) := (VR_x (by decide)).trans ve69
  refine go_smp (L' := [some (.inr (.inr (some 79))), some (.inl p1), some (.inl p2), some (.inl p3)]) (st' := []) (w' := (SH, (u2 (u2 (u2 (u2 (u2 (u2 dt3 87 1 (dt3 80 (((5380 + (4 * p1)) + 1)).toNat)) 87 2 ((u2 dt3 87 1 (dt3 80 (((5380 + (4 * p1)) + 1)).toNat)) 80 (((5380 + (4 * p1)) + 2)).toNat)) 87 5 ((u2 (u2 dt3 87 1 (dt3 80 (((5380 + (4 * p1)) + 1)).toNat)) 87 2 ((u2 dt3 87 1 (dt3 80 (((5380 + (4 * p1)) + 1)).toNat)) 80 (((5380 + (4 * p1)) + 2)).toNat)) 80 (((5380 + (4 * p1)) + 3)).toNat)) 87 3 p3) 87 4 (wr (((dt3 93 0) + (dt3 93 1)) + (dt3 93 2)))) 87 6 ((u2 (u2 (u2 (u2 (u2 dt3 87 1 (dt3 80 (((5380 + (4 * p1)) + 1)).toNat)) 87 2 ((u2 dt3 87 1 (dt3 80 (((5380 + (4 * p1)) + 1)).toNat)) 80 (((5380 + (4 * p1)) + 2)).toNat)) 87 5 ((u2 (u2 dt3 87 1 (dt3 80 (((5380 + (4 * p1)) + 1)).toNat)) 87 2 ((u2 dt3 87 1 (dt3 80 (((5380 + (4 * p1)) + 1)).toNat)) 80 (((5380 + (4 * p1)) + 2)).toNat)) 80 (((5380 + (4 * p1)) + 3)).toNat)) 87 3 p3) 87 4 (wr (((dt3 93 0) + (dt3 93 1)) + (dt3 93 2)))) 80 (((5320 + (5 * p2)) + 1)).toNat)))) rfl rfl (s_iast (n := 7) rfl ⟨by omega, by omega⟩ ⟨by omega, by omega⟩) ?_
  refine go_ret (k := 1) (r := none) (w1 := (SH, (u2 (u2 (u2 (u2 (u2 (u2 dt3 87 1 (dt3 80 (((5380 + (4 * p1)) + 1)).toNat)) 87 2 ((u2 dt3 87 1 (dt3 80 (((5380 + (4 * p1)) + 1)).toNat)) 80 (((5380 + (4 * p1)) + 2)).toNat)) 87 5 ((u2 (u2 dt3 87 1 (dt3 80 (((5380 + (4 * p1)) + 1)).toNat)) 87 2 ((u2 dt3 87 1 (dt3 80 (((5380 + (4 * p1)) + 1)).toNat)) 80 (((5380 + (4 * p1)) + 2)).toNat)) 80 (((5380 + (4 * p1)) + 3)).toNat)) 87 3 p3) 87 4 (wr (((dt3 93 0) + (dt3 93 1)) + (dt3 93 2)))) 87 6 ((u2 (u2 (u2 (u2 (u2 dt3 87 1 (dt3 80 (((5380 + (4 * p1)) + 1)).toNat)) 87 2 ((u2 dt3 87 1 (dt3 80 (((5380 + (4 * p1)) + 1)).toNat)) 80 (((5380 + (4 * p1)) + 2)).toNat)) 87 5 ((u2 (u2 dt3 87 1 (dt3 80 (((5380 + (4 * p1)) + 1)).toNat)) 87 2 ((u2 dt3 87 1 (dt3 80 (((5380 + (4 * p1)) + 1)).toNat)) 80 (((5380 + (4 * p1)) + 2)).toNat)) 80 (((5380 + (4 * p1)) + 3)).toNat)) 87 3 p3) 87 4 (wr (((dt3 93 0) + (dt3 93 1)) + (dt3 93 2)))) 80 (((5320 + (5 * p2)) + 1)).toNat)))) (fun _ => rfl) ?_
  exact ⟨(u2 (u2 (u2 (u2 (u2 (u2 dt3 87 1 (dt3 80 (((5380 + (4 * p1)) + 1)).toNat)) 87 2 ((u2 dt3 87 1 (dt3 80 (((5380 + (4 * p1)) + 1)).toNat)) 80 (((5380 + (4 * p1)) + 2)).toNat)) 87 5 ((u2 (u2 dt3 87 1 (dt3 80 (((5380 + (4 * p1)) + 1)).toNat)) 87 2 ((u2 dt3 87 1 (dt3 80 (((5380 + (4 * p1)) + 1)).toNat)) 80 (((5380 + (4 * p1)) + 2)).toNat)) 80 (((5380 + (4 * p1)) + 3)).toNat)) 87 3 p3) 87 4 (wr (((dt3 93 0) + (dt3 93 1)) + (dt3 93 2)))) 87 6 ((u2 (u2 (u2 (u2 (u2 dt3 87 1 (dt3 80 (((5380 + (4 * p1)) + 1)).toNat)) 87 2 ((u2 dt3 87 1 (dt3 80 (((5380 + (4 * p1)) + 1)).toNat)) 80 (((5380 + (4 * p1)) + 2)).toNat)) 87 5 ((u2 (u2 dt3 87 1 (dt3 80 (((5380 + (4 * p1)) + 1)).toNat)) 87 2 ((u2 dt3 87 1 (dt3 80 (((5380 + (4 * p1)) + 1)).toNat)) 80 (((5380 + (4 * p1)) + 2)).toNat)) 80 (((5380 + (4 * p1)) + 3)).toNat)) 87 3 p3) 87 4 (wr (((dt3 93 0) + (dt3 93 1)) + (dt3 93 2)))) 80 (((5320 + (5 * p2)) + 1)).toNat)), rfl, hI72, hF73, ⟨rfl, ⟨by exact FQ_R (by rw [show 5380 + 4 * p1.toNat + 1 = (((5380 + (4 * p1)) + 1)).toNat by omega]; omega) (by rw [show 5380 + 4 * p1.toNat + 2 = (((5380 + (4 * p1)) + 2)).toNat by omega]; omega) (by omega) (by rw [SAID_10]; omega) (by rw [show 5380 + 4 * p1.toNat + 3 = (((5380 + (4 * p1)) + 3)).toNat by omega]; omega) (by rw [show 5320 + 5 * p2.toNat + 1 = (((5320 + (5 * p2)) + 1)).toNat by omega]; omega), by exact ve80⟩⟩⟩
set_option maxRecDepth 20000 in
theorem chk_sp_X6_chanceOf_f (L : Nat) (xs : Nat → Int32) (sio : Option Nat) (d : Nat) (dt : Nat → Nat → Int) (hI : InvC dt) (hM : MW (dt 80))  (p1 : Int) (h_p1 : 0 ≤ p1 ∧ p1 ≤ 3) (p2 : Int) (h_p2 : 0 ≤ p2 ∧ p2 ≤ 39) (p3 : Int) (h_p3 : 0 ≤ p3 ∧ p3 ≤ 11) (p4 : Int) (h_p4 : 0 ≤ p4 ∧ p4 ≤ 3) (p5 : Int) (h_p5 : (-1) ≤ p5 ∧ p5 ≤ 3)  : GO (am_XX L xs sio) (d + 6) 215 0 [some (.inr (.inr (some 79))), some (.inl p1), some (.inl p2), some (.inl p3), some (.inl p4), some (.inl p5), none, none, none, none] [] (SH, dt) (fun r w2 => ∃ dt2 : Nat → Nat → Int, w2 = (SH, dt2) ∧ InvC dt2 ∧ Fr [86, 87, 88, 89, 90, 91, 92, 93, 94, 95, 96, 97, 98, 99, 100] dt dt2 ∧ ((∃ v : Int, r = some (.inl v) ∧ (0 ≤ v ∧ v ≤ 1000) ∧ (v = CHN (dt 80) p1 p2 p3 p4 p5)))) := by
  have hF : Fr [86, 87, 88, 89, 90, 91, 92, 93, 94, 95, 96, 97, 98, 99, 100] dt dt := Fr_refl
  have bWS := WS_R8 (f := dt 80) (fa := (FQ (dt 80) p2 p3 p4)) (l := p1) 8 (by decide)
  have b8_ := WH_R (f := dt 80) (fa := (FQ (dt 80) p2 p3 p4)) (l := p1) (rule := 8)
  rw [if_pos rfl] at b8_
  refine go_to (k := 4) (pc' := 5) (L' := [some (.inr (.inr (some 79))), some (.inl p1), some (.inl p2), some (.inl p3), some (.inl p4), some (.inl p5), none, none, none, none]) (st' := [.inl p4, .inl p3, .inl p2, .inr (.inr (some 79))]) (w' := (SH, dt)) (fun _ => rfl) ?_
  refine go_call (Q' := _) rfl rfl rfl rfl rfl (sp_X6_gathers_g L xs sio (d + 0) dt hI hM  p2 ⟨by omega, by omega⟩ p3 ⟨by omega, by omega⟩ p4 ⟨by omega, by omega⟩ ) ?_
  rintro _ _ ⟨dt2, rfl, hI3, hF4, h1⟩
  refine ⟨rfl, ?_⟩
  have hF5 : Fr [86, 87, 88, 89, 90, 91, 92, 93, 94, 95, 96, 97, 98, 99, 100] dt dt2 := Fr_tr hF hF4 (by decide)
  rcases h1 with ⟨rfl, h1⟩
  obtain ⟨h1_0, h1_1⟩ := h1
  refine go_to (k := 2) (pc' := 10) (L' := [some (.inr (.inr (some 79))), some (.inl p1), some (.inl p2), some (.inl p3), some (.inl p4), some (.inl p5), none, none, none, none]) (st' := [.inl p1, .inr (.inr (some 79))]) (w' := (SH, dt2)) (fun _ => rfl) ?_
  refine go_call (Q' := _) rfl rfl rfl rfl rfl (sp_X6_allWeights L xs sio (d + 2) dt2 hI3 (MW_fr hM hF5 (by decide))  p1 ⟨by omega, by omega⟩ ) ?_
  rintro _ _ ⟨dt7, rfl, hI8, hF9, h6⟩
  refine ⟨rfl, ?_⟩
  have hF10 : Fr [86, 87, 88, 89, 90, 91, 92, 93, 94, 95, 96, 97, 98, 99, 100] dt dt7 := Fr_tr hF5 hF9 (by decide)
  rcases h6 with ⟨v_h6, rfl, h6r, h6⟩
  have wv11 := h6
  rw [show dt2 80 = dt 80 from funext (hF5 80 (by decide)), WS_fa h1_0 8] at wv11
  have ga12 : ∀ s : Nat, 1 ≤ s → s ≤ 6 → dt7 87 s = FQ (dt 80) p2 p3 p4 s := fun s a b => (hF9 87 (by decide) s).trans (h1_0 s a b)
  have ve13 : VR dt7 = wend (dt 80) (dt 80 (5320 + 5 * p3.toNat)) := (VR_frS hF9 (fun k a b h_ => by simp at h_; omega)).trans h1_1
  refine go_to (k := 4) (pc' := 19) (L' := [some (.inr (.inr (some 79))), some (.inl p1), some (.inl p2), some (.inl p3), some (.inl p4), some (.inl p5), some (.inl v_h6), none, none, none]) (st' := [.inl 8, .inl p1, .inr (.inr (some 79))]) (w' := (SH, dt7)) (fun _ => rfl) ?_
  refine go_call (Q' := _) rfl rfl rfl rfl rfl (sp_X6_weighs L xs sio (d + 3) dt7 hI8 (MW_fr hM hF10 (by decide))  p1 ⟨by omega, by omega⟩ 8 ⟨by omega, by omega⟩ ) ?_
  rintro _ _ ⟨dt15, rfl, hI16, hF17, h14⟩
  refine ⟨rfl, ?_⟩
  have hF18 : Fr [86, 87, 88, 89, 90, 91, 92, 93, 94, 95, 96, 97, 98, 99, 100] dt dt15 := Fr_tr hF10 hF17 (by decide)
  rcases h14 with ⟨v_h14, rfl, h14r, h14⟩
  obtain ⟨h14_0, h14_1⟩ := h14
  have wv19 := h14_0
  rw [show dt7 80 = dt 80 from funext (hF10 80 (by decide)), WH_fa ga12] at wv19
  have ga20 : ∀ s : Nat, 1 ≤ s → s ≤ 6 → dt15 87 s = FQ (dt 80) p2 p3 p4 s := fun s a b => (hF17 87 (by decide) s).trans (ga12 s a b)
  have ve21 : VR dt15 = wend (dt 80) (dt 80 (5320 + 5 * p3.toNat)) := (VR_frS hF17 (fun k a b h_ => by simp at h_; omega)).trans ve13
  refine go_to (k := 1) (pc' := 24) (L' := [some (.inr (.inr (some 79))), some (.inl p1), some (.inl p2), some (.inl p3), some (.inl p4), some (.inl p5), some (.inl v_h6), some (.inl v_h14), none, none]) (st' := []) (w' := (SH, dt15)) (fun _ => rfl) ?_
  refine go_to (k := 4) (pc' := 30) (L' := [some (.inr (.inr (some 79))), some (.inl p1), some (.inl p2), some (.inl p3), some (.inl p4), some (.inl p5), some (.inl v_h6), some (.inl v_h14), some (.inl 0), some (.inl 0)]) (st' := []) (w' := (SH, dt15)) (fun _ => rfl) ?_
  have loop45 : ∀ (k_ : Nat) (l30_8 : Int) (l30_9 : Int) (dt36 : Nat → Nat → Int) (hI37 : InvC dt36) (hF38 : Fr [86, 87, 88, 89, 90, 91, 92, 93, 94, 95, 96, 97, 98, 99, 100] dt dt36) (i39 : 0 ≤ l30_8 ∧ l30_8 ≤ 792) (i40 : 0 ≤ l30_9 ∧ l30_9 ≤ 8) (i41 : ∀ s : Nat, 1 ≤ s → s ≤ 6 → dt36 87 s = FQ (dt 80) p2 p3 p4 s) (i42 : VR dt36 = wend (dt 80) (dt 80 (5320 + 5 * p3.toNat))) (i43 : 0 < v_h6 → l30_8 = SOF (fun r => SAID (dt 80) p3.toNat (r : Int)) (fun r => WH (dt 80) (FQ (dt 80) p2 p3 p4) p1 (r : Int)) p5 l30_9.toNat) (i44 : l30_8 ≤ 99 * l30_9), (9 - l30_9).toNat < k_ → GO (am_XX L xs sio) (d + 6) 215 30 [some (.inr (.inr (some 79))), some (.inl p1), none, some (.inl p3), none, some (.inl p5), some (.inl v_h6), some (.inl v_h14), some (.inl l30_8), some (.inl l30_9)] [] (SH, dt36) (fun r w2 => ∃ dt2 : Nat → Nat → Int, w2 = (SH, dt2) ∧ InvC dt2 ∧ Fr [86, 87, 88, 89, 90, 91, 92, 93, 94, 95, 96, 97, 98, 99, 100] dt dt2 ∧ ((∃ v : Int, r = some (.inl v) ∧ (0 ≤ v ∧ v ≤ 1000) ∧ (v = CHN (dt 80) p1 p2 p3 p4 p5)))) := by
    intro k_
    induction k_ with
    | zero => intro l30_8 l30_9 dt36 hI37 hF38 i39 i40 i41 i42 i43 i44 hm; exact absurd hm (Nat.not_lt_zero _)
    | succ k_ ih_loop45 =>
      intro l30_8 l30_9 dt36 hI37 hF38 i39 i40 i41 i42 i43 i44 hm
      have qG := i41
      have qV := i42
      have qS := i43
      have hR_ : l30_9 < 8 → _ := fun (z_ : l30_9 < 8) => WH_R7 (f := dt 80) (fa := (FQ (dt 80) p2 p3 p4)) (l := p1) (r := ((l30_9.toNat : Nat) : Int)) (by omega)
      have ec_ : ((l30_9.toNat : Nat) : Int) = l30_9 := by omega
      have qH := hF38
      have hY_ := SOF_y (S := (fun r => SAID (dt 80) p3.toNat (r : Int))) (w := (fun r => WH (dt 80) (FQ (dt 80) p2 p3 p4) p1 (r : Int))) (a := p5) (r := l30_9) (by omega)
      have hN_ := SOF_n (S := (fun r => SAID (dt 80) p3.toNat (r : Int))) (w := (fun r => WH (dt 80) (FQ (dt 80) p2 p3 p4) p1 (r : Int))) (a := p5) (r := l30_9) (by omega)
      dsimp only at hY_ hN_
      rw [ec_] at hY_ hN_ hR_
      refine go_if (k := 3) (p1 := 76) (p2 := 37) (L' := [some (.inr (.inr (some 79))), some (.inl p1), none, some (.inl p3), none, some (.inl p5), some (.inl v_h6), some (.inl v_h14), some (.inl l30_8), some (.inl l30_9)]) (st' := []) (w' := (SH, dt36)) (fun _ => rfl) (c_ge (a := l30_9) (b := 8) ⟨by omega, by omega⟩ ⟨by omega, by omega⟩) (fun c46 => ?_) (fun c46 => ?_)
      · skip
        refine go_if (k := 2) (p1 := 97) (p2 := 81) (L' := [some (.inr (.inr (some 79))), some (.inl p1), none, some (.inl p3), none, some (.inl p5), some (.inl v_h6), some (.inl v_h14), some (.inl l30_8), some (.inl l30_9)]) (st' := []) (w' := (SH, dt36)) (fun _ => rfl) (z_ne (a := v_h6) ⟨by omega, by omega⟩) (fun c47 => ?_) (fun c47 => ?_)
        · skip
          refine go_to (k := 8) (pc' := 108) (L' := [some (.inr (.inr (some 79))), some (.inl p1), none, some (.inl p3), none, some (.inl p5), some (.inl v_h6), some (.inl v_h14), some (.inl l30_8), some (.inl l30_9)]) (st' := [.inl 0, .inl p3, .inr (.inr (some 79)), .inl ((100 - v_h14) * l30_8)]) (w' := (SH, dt36)) (fun _ => rfl) ?_
          refine go_call (Q' := _) rfl rfl rfl rfl rfl (sp_X6_saysNow_f L xs sio (d + 4) dt36 hI37 (MW_fr hM hF38 (by decide))  p3 ⟨by omega, by omega⟩ 0 ⟨by omega, by omega⟩ ) ?_
          rintro _ _ ⟨rfl, h48⟩
          refine ⟨rfl, ?_⟩
          rcases h48 with ⟨v_h48, rfl, h48r, h48⟩
          have sn49 : v_h48 = SAID (dt 80) (p3).toNat 0 := by have z_ := h48; rw [qV, show dt36 80 = dt 80 from funext (qH 80 (by decide))] at z_; rw [SAID_r (by omega)]; exact z_
          refine go_if (k := 2) (p1 := 124) (p2 := 116) (L' := [some (.inr (.inr (some 79))), some (.inl p1), none, some (.inl p3), none, some (.inl p5), some (.inl v_h6), some (.inl v_h14), some (.inl l30_8), some (.inl l30_9)]) (st' := [.inl ((100 - v_h14) * l30_8)]) (w' := (SH, dt36)) (fun _ => rfl) (c_ne (a := v_h48) (b := p5) ⟨by omega, by omega⟩ ⟨by omega, by omega⟩) (fun c50 => ?_) (fun c50 => ?_)
          · skip
            refine go_to (k := 5) (pc' := 131) (L' := [some (.inr (.inr (some 79))), some (.inl p1), none, some (.inl p3), none, some (.inl p5), some (.inl v_h6), some (.inl v_h14), some (.inl l30_8), some (.inl l30_9)]) (st' := [.inl v_h6, .inl ((((100 - v_h14) * l30_8) + 0) * 10)]) (w' := (SH, dt36)) (fun _ => rfl) ?_
            refine go_smp (L' := [some (.inr (.inr (some 79))), some (.inl p1), none, some (.inl p3), none, some (.inl p5), some (.inl v_h6), some (.inl v_h14), some (.inl l30_8), some (.inl l30_9)]) (st' := [.inl ((wr ((((100 - v_h14) * l30_8) + 0) * 10)).tdiv (wr v_h6))]) (w' := (SH, dt36)) rfl rfl (s_idiv (by rw [wr_R ⟨by omega, by omega⟩]; omega)) ?_
            have hv_ : (wr ((((100 - v_h14) * l30_8) + 0) * 10)).tdiv (wr v_h6) = CHF (dt 80) (FQ (dt 80) p2 p3 p4) p1 p3.toNat p5 := by unfold CHF CHP; rw [if_neg (by omega), ← wv19, ← wv11, show SOF _ _ p5 8 = l30_8 from (by rw [qS (by omega), show l30_9.toNat = 8 by omega])]; first | (rw [if_pos (by omega)]; done) | (rw [if_neg (by omega), Int.add_zero]; done)
            have hb_ := CHF_R (f := dt 80) (fa := (FQ (dt 80) p2 p3 p4)) (l := p1) (a := p5) (q := p3.toNat)
            rw [← hv_] at hb_
            refine go_ret (k := 1) (r := some (.inl ((wr ((((100 - v_h14) * l30_8) + 0) * 10)).tdiv (wr v_h6)))) (w1 := (SH, dt36)) (fun _ => rfl) ?_
            exact ⟨dt36, rfl, hI37, hF38, ⟨_, rfl, ⟨by omega, by omega⟩, by exact hv_.trans CHN_F.symm⟩⟩
          · skip
            refine go_to (k := 8) (pc' := 131) (L' := [some (.inr (.inr (some 79))), some (.inl p1), none, some (.inl p3), none, some (.inl p5), some (.inl v_h6), some (.inl v_h14), some (.inl l30_8), some (.inl l30_9)]) (st' := [.inl v_h6, .inl ((((100 - v_h14) * l30_8) + (v_h14 * v_h6)) * 10)]) (w' := (SH, dt36)) (fun _ => rfl) ?_
            refine go_smp (L' := [some (.inr (.inr (some 79))), some (.inl p1), none, some (.inl p3), none, some (.inl p5), some (.inl v_h6), some (.inl v_h14), some (.inl l30_8), some (.inl l30_9)]) (st' := [.inl ((wr ((((100 - v_h14) * l30_8) + (v_h14 * v_h6)) * 10)).tdiv (wr v_h6))]) (w' := (SH, dt36)) rfl rfl (s_idiv (by rw [wr_R ⟨by omega, by omega⟩]; omega)) ?_
            have hv_ : (wr ((((100 - v_h14) * l30_8) + (v_h14 * v_h6)) * 10)).tdiv (wr v_h6) = CHF (dt 80) (FQ (dt 80) p2 p3 p4) p1 p3.toNat p5 := by unfold CHF CHP; rw [if_neg (by omega), ← wv19, ← wv11, show SOF _ _ p5 8 = l30_8 from (by rw [qS (by omega), show l30_9.toNat = 8 by omega])]; first | (rw [if_pos (by omega)]; done) | (rw [if_neg (by omega), Int.add_zero]; done)
            have hb_ := CHF_R (f := dt 80) (fa := (FQ (dt 80) p2 p3 p4)) (l := p1) (a := p5) (q := p3.toNat)
            rw [← hv_] at hb_
            refine go_ret (k := 1) (r := some (.inl ((wr ((((100 - v_h14) * l30_8) + (v_h14 * v_h6)) * 10)).tdiv (wr v_h6)))) (w1 := (SH, dt36)) (fun _ => rfl) ?_
            exact ⟨dt36, rfl, hI37, hF38, ⟨_, rfl, ⟨by omega, by omega⟩, by exact hv_.trans CHN_F.symm⟩⟩
        · skip
          refine go_if (k := 5) (p1 := 94) (p2 := 90) (L' := [some (.inr (.inr (some 79))), some (.inl p1), none, some (.inl p3), none, some (.inl p5), some (.inl 4), some (.inl v_h14), some (.inl l30_8), some (.inl l30_9)]) (st' := []) (w' := (SH, dt36)) (fun _ => rfl) (c_ne (a := p5) (b := (-1)) ⟨by omega, by omega⟩ ⟨by omega, by omega⟩) (fun c51 => ?_) (fun c51 => ?_)
          · skip
            refine go_to (k := 10) (pc' := 108) (L' := [some (.inr (.inr (some 79))), some (.inl p1), none, some (.inl p3), none, some (.inl p5), some (.inl 4), some (.inl v_h14), some (.inl 1), some (.inl l30_9)]) (st' := [.inl 0, .inl p3, .inr (.inr (some 79)), .inl ((100 - v_h14) * 1)]) (w' := (SH, dt36)) (fun _ => rfl) ?_
            refine go_call (Q' := _) rfl rfl rfl rfl rfl (sp_X6_saysNow_f L xs sio (d + 4) dt36 hI37 (MW_fr hM hF38 (by decide))  p3 ⟨by omega, by omega⟩ 0 ⟨by omega, by omega⟩ ) ?_
            rintro _ _ ⟨rfl, h52⟩
            refine ⟨rfl, ?_⟩
            rcases h52 with ⟨v_h52, rfl, h52r, h52⟩
            have sn53 : v_h52 = SAID (dt 80) (p3).toNat 0 := by have z_ := h52; rw [qV, show dt36 80 = dt 80 from funext (qH 80 (by decide))] at z_; rw [SAID_r (by omega)]; exact z_
            refine go_if (k := 2) (p1 := 124) (p2 := 116) (L' := [some (.inr (.inr (some 79))), some (.inl p1), none, some (.inl p3), none, some (.inl p5), some (.inl 4), some (.inl v_h14), some (.inl 1), some (.inl l30_9)]) (st' := [.inl ((100 - v_h14) * 1)]) (w' := (SH, dt36)) (fun _ => rfl) (c_ne (a := v_h52) (b := p5) ⟨by omega, by omega⟩ ⟨by omega, by omega⟩) (fun c54 => ?_) (fun c54 => ?_)
            · skip
              refine go_to (k := 5) (pc' := 131) (L' := [some (.inr (.inr (some 79))), some (.inl p1), none, some (.inl p3), none, some (.inl p5), some (.inl 4), some (.inl v_h14), some (.inl 1), some (.inl l30_9)]) (st' := [.inl 4, .inl ((((100 - v_h14) * 1) + 0) * 10)]) (w' := (SH, dt36)) (fun _ => rfl) ?_
              refine go_smp (L' := [some (.inr (.inr (some 79))), some (.inl p1), none, some (.inl p3), none, some (.inl p5), some (.inl 4), some (.inl v_h14), some (.inl 1), some (.inl l30_9)]) (st' := [.inl (((((100 - v_h14) * 1) + 0) * 10) / 4)]) (w' := (SH, dt36)) rfl rfl (s_idivc ⟨by omega, by omega⟩ ⟨by omega, by omega⟩) ?_
              have hv_ : ((((100 - v_h14) * 1) + 0) * 10) / 4 = CHF (dt 80) (FQ (dt 80) p2 p3 p4) p1 p3.toNat p5 := by unfold CHF; rw [if_pos (by omega), CHP_e ⟨by decide, by decide⟩ ⟨by omega, by omega⟩ (by split <;> omega)]; (repeat (first | rw [if_pos (by omega)] | rw [if_neg (by omega)])); omega
              have hb_ := CHF_R (f := dt 80) (fa := (FQ (dt 80) p2 p3 p4)) (l := p1) (a := p5) (q := p3.toNat)
              rw [← hv_] at hb_
              refine go_ret (k := 1) (r := some (.inl (((((100 - v_h14) * 1) + 0) * 10) / 4))) (w1 := (SH, dt36)) (fun _ => rfl) ?_
              exact ⟨dt36, rfl, hI37, hF38, ⟨_, rfl, ⟨by omega, by omega⟩, by exact hv_.trans CHN_F.symm⟩⟩
            · skip
              refine go_to (k := 8) (pc' := 131) (L' := [some (.inr (.inr (some 79))), some (.inl p1), none, some (.inl p3), none, some (.inl p5), some (.inl 4), some (.inl v_h14), some (.inl 1), some (.inl l30_9)]) (st' := [.inl 4, .inl ((((100 - v_h14) * 1) + (v_h14 * 4)) * 10)]) (w' := (SH, dt36)) (fun _ => rfl) ?_
              refine go_smp (L' := [some (.inr (.inr (some 79))), some (.inl p1), none, some (.inl p3), none, some (.inl p5), some (.inl 4), some (.inl v_h14), some (.inl 1), some (.inl l30_9)]) (st' := [.inl (((((100 - v_h14) * 1) + (v_h14 * 4)) * 10) / 4)]) (w' := (SH, dt36)) rfl rfl (s_idivc ⟨by omega, by omega⟩ ⟨by omega, by omega⟩) ?_
              have hv_ : ((((100 - v_h14) * 1) + (v_h14 * 4)) * 10) / 4 = CHF (dt 80) (FQ (dt 80) p2 p3 p4) p1 p3.toNat p5 := by unfold CHF; rw [if_pos (by omega), CHP_e ⟨by decide, by decide⟩ ⟨by omega, by omega⟩ (by split <;> omega)]; (repeat (first | rw [if_pos (by omega)] | rw [if_neg (by omega)])); omega
              have hb_ := CHF_R (f := dt 80) (fa := (FQ (dt 80) p2 p3 p4)) (l := p1) (a := p5) (q := p3.toNat)
              rw [← hv_] at hb_
              refine go_ret (k := 1) (r := some (.inl (((((100 - v_h14) * 1) + (v_h14 * 4)) * 10) / 4))) (w1 := (SH, dt36)) (fun _ => rfl) ?_
              exact ⟨dt36, rfl, hI37, hF38, ⟨_, rfl, ⟨by omega, by omega⟩, by exact hv_.trans CHN_F.symm⟩⟩
          · skip
            refine go_to (k := 11) (pc' := 108) (L' := [some (.inr (.inr (some 79))), some (.inl p1), none, some (.inl p3), none, some (.inl p5), some (.inl 4), some (.inl v_h14), some (.inl 0), some (.inl l30_9)]) (st' := [.inl 0, .inl p3, .inr (.inr (some 79)), .inl ((100 - v_h14) * 0)]) (w' := (SH, dt36)) (fun _ => rfl) ?_
            refine go_call (Q' := _) rfl rfl rfl rfl rfl (sp_X6_saysNow_f L xs sio (d + 4) dt36 hI37 (MW_fr hM hF38 (by decide))  p3 ⟨by omega, by omega⟩ 0 ⟨by omega, by omega⟩ ) ?_
            rintro _ _ ⟨rfl, h55⟩
            refine ⟨rfl, ?_⟩
            rcases h55 with ⟨v_h55, rfl, h55r, h55⟩
            have sn56 : v_h55 = SAID (dt 80) (p3).toNat 0 := by have z_ := h55; rw [qV, show dt36 80 = dt 80 from funext (qH 80 (by decide))] at z_; rw [SAID_r (by omega)]; exact z_
            refine go_if (k := 2) (p1 := 124) (p2 := 116) (L' := [some (.inr (.inr (some 79))), some (.inl p1), none, some (.inl p3), none, some (.inl p5), some (.inl 4), some (.inl v_h14), some (.inl 0), some (.inl l30_9)]) (st' := [.inl ((100 - v_h14) * 0)]) (w' := (SH, dt36)) (fun _ => rfl) (c_ne (a := v_h55) (b := p5) ⟨by omega, by omega⟩ ⟨by omega, by omega⟩) (fun c57 => ?_) (fun c57 => ?_)
            · skip
              refine go_to (k := 5) (pc' := 131) (L' := [some (.inr (.inr (some 79))), some (.inl p1), none, some (.inl p3), none, some (.inl p5), some (.inl 4), some (.inl v_h14), some (.inl 0), some (.inl l30_9)]) (st' := [.inl 4, .inl ((((100 - v_h14) * 0) + 0) * 10)]) (w' := (SH, dt36)) (fun _ => rfl) ?_
              refine go_smp (L' := [some (.inr (.inr (some 79))), some (.inl p1), none, some (.inl p3), none, some (.inl p5), some (.inl 4), some (.inl v_h14), some (.inl 0), some (.inl l30_9)]) (st' := [.inl (((((100 - v_h14) * 0) + 0) * 10) / 4)]) (w' := (SH, dt36)) rfl rfl (s_idivc ⟨by omega, by omega⟩ ⟨by omega, by omega⟩) ?_
              have hv_ : ((((100 - v_h14) * 0) + 0) * 10) / 4 = CHF (dt 80) (FQ (dt 80) p2 p3 p4) p1 p3.toNat p5 := by unfold CHF; rw [if_pos (by omega), CHP_e ⟨by decide, by decide⟩ ⟨by omega, by omega⟩ (by split <;> omega)]; (repeat (first | rw [if_pos (by omega)] | rw [if_neg (by omega)])); omega
              have hb_ := CHF_R (f := dt 80) (fa := (FQ (dt 80) p2 p3 p4)) (l := p1) (a := p5) (q := p3.toNat)
              rw [← hv_] at hb_
              refine go_ret (k := 1) (r := some (.inl (((((100 - v_h14) * 0) + 0) * 10) / 4))) (w1 := (SH, dt36)) (fun _ => rfl) ?_
              exact ⟨dt36, rfl, hI37, hF38, ⟨_, rfl, ⟨by omega, by omega⟩, by exact hv_.trans CHN_F.symm⟩⟩
            · skip
              refine go_to (k := 8) (pc' := 131) (L' := [some (.inr (.inr (some 79))), some (.inl p1), none, some (.inl p3), none, some (.inl p5), some (.inl 4), some (.inl v_h14), some (.inl 0), some (.inl l30_9)]) (st' := [.inl 4, .inl ((((100 - v_h14) * 0) + (v_h14 * 4)) * 10)]) (w' := (SH, dt36)) (fun _ => rfl) ?_
              refine go_smp (L' := [some (.inr (.inr (some 79))), some (.inl p1), none, some (.inl p3), none, some (.inl p5), some (.inl 4), some (.inl v_h14), some (.inl 0), some (.inl l30_9)]) (st' := [.inl (((((100 - v_h14) * 0) + (v_h14 * 4)) * 10) / 4)]) (w' := (SH, dt36)) rfl rfl (s_idivc ⟨by omega, by omega⟩ ⟨by omega, by omega⟩) ?_
              have hv_ : ((((100 - v_h14) * 0) + (v_h14 * 4)) * 10) / 4 = CHF (dt 80) (FQ (dt 80) p2 p3 p4) p1 p3.toNat p5 := by unfold CHF; rw [if_pos (by omega), CHP_e ⟨by decide, by decide⟩ ⟨by omega, by omega⟩ (by split <;> omega)]; (repeat (first | rw [if_pos (by omega)] | rw [if_neg (by omega)])); omega
              have hb_ := CHF_R (f := dt 80) (fa := (FQ (dt 80) p2 p3 p4)) (l := p1) (a := p5) (q := p3.toNat)
              rw [← hv_] at hb_
              refine go_ret (k := 1) (r := some (.inl (((((100 - v_h14) * 0) + (v_h14 * 4)) * 10) / 4))) (w1 := (SH, dt36)) (fun _ => rfl) ?_
              exact ⟨dt36, rfl, hI37, hF38, ⟨_, rfl, ⟨by omega, by omega⟩, by exact hv_.trans CHN_F.symm⟩⟩
      · skip
        refine go_if (k := 3) (p1 := 66) (p2 := 44) (L' := [some (.inr (.inr (some 79))), some (.inl p1), none, some (.inl p3), none, some (.inl p5), some (.inl v_h6), some (.inl v_h14), some (.inl l30_8), some (.inl l30_9)]) (st' := [.inl l30_8]) (w' := (SH, dt36)) (fun _ => rfl) (z_le (a := v_h6) ⟨by omega, by omega⟩) (fun c58 => ?_) (fun c58 => ?_)
        · skip
          refine go_to (k := 5) (pc' := 30) (L' := [some (.inr (.inr (some 79))), some (.inl p1), none, some (.inl p3), none, some (.inl p5), some (.inl v_h6), some (.inl v_h14), some (.inl (l30_8 + 0)), some (.inl (l30_9 + 1))]) (st' := []) (w' := (SH, dt36)) (fun _ => rfl) ?_
          exact GO.le (ih_loop45 (l30_8 + 0) (l30_9 + 1) dt36 hI37 hF38 (by first | omega | exact qG | exact qV | (intro z_; first | omega | rfl)) (by first | omega | exact qG | exact qV | (intro z_; first | omega | rfl)) (by first | omega | exact qG | exact qV | (intro z_; first | omega | rfl)) (by first | omega | exact qG | exact qV | (intro z_; first | omega | rfl)) (by first | omega | exact qG | exact qV | (intro z_; first | omega | rfl)) (by first | omega | exact qG | exact qV | (intro z_; first | omega | rfl)) (by omega)) ⟨.inl rfl, .inl rfl, .inl rfl, .inl rfl, .inl rfl, .inl rfl, .inl rfl, .inl rfl, .inl rfl, .inl rfl, trivial⟩
        · skip
          refine go_to (k := 3) (pc' := 48) (L' := [some (.inr (.inr (some 79))), some (.inl p1), none, some (.inl p3), none, some (.inl p5), some (.inl v_h6), some (.inl v_h14), some (.inl l30_8), some (.inl l30_9)]) (st' := [.inl l30_9, .inl p3, .inr (.inr (some 79)), .inl l30_8]) (w' := (SH, dt36)) (fun _ => rfl) ?_
          refine go_call (Q' := _) rfl rfl rfl rfl rfl (sp_X6_saysNow_f L xs sio (d + 4) dt36 hI37 (MW_fr hM hF38 (by decide))  p3 ⟨by omega, by omega⟩ l30_9 ⟨by omega, by omega⟩ ) ?_
          rintro _ _ ⟨rfl, h59⟩
          refine ⟨rfl, ?_⟩
          rcases h59 with ⟨v_h59, rfl, h59r, h59⟩
          have sn60 : v_h59 = SAID (dt 80) (p3).toNat l30_9 := by have z_ := h59; rw [qV, show dt36 80 = dt 80 from funext (qH 80 (by decide))] at z_; rw [SAID_r (by omega)]; exact z_
          refine go_if (k := 2) (p1 := 66) (p2 := 56) (L' := [some (.inr (.inr (some 79))), some (.inl p1), none, some (.inl p3), none, some (.inl p5), some (.inl v_h6), some (.inl v_h14), some (.inl l30_8), some (.inl l30_9)]) (st' := [.inl l30_8]) (w' := (SH, dt36)) (fun _ => rfl) (c_ne (a := v_h59) (b := p5) ⟨by omega, by omega⟩ ⟨by omega, by omega⟩) (fun c61 => ?_) (fun c61 => ?_)
          · skip
            refine go_to (k := 5) (pc' := 30) (L' := [some (.inr (.inr (some 79))), some (.inl p1), none, some (.inl p3), none, some (.inl p5), some (.inl v_h6), some (.inl v_h14), some (.inl (l30_8 + 0)), some (.inl (l30_9 + 1))]) (st' := []) (w' := (SH, dt36)) (fun _ => rfl) ?_
            exact GO.le (ih_loop45 (l30_8 + 0) (l30_9 + 1) dt36 hI37 hF38 (by first | omega | exact qG | exact qV | (intro z_; first | omega | rfl)) (by first | omega | exact qG | exact qV | (intro z_; first | omega | rfl)) (by first | omega | exact qG | exact qV | (intro z_; first | omega | rfl)) (by first | omega | exact qG | exact qV | (intro z_; first | omega | rfl)) (by first | omega | exact qG | exact qV | (intro z_; first | omega | rfl)) (by first | omega | exact qG | exact qV | (intro z_; first | omega | rfl)) (by omega)) ⟨.inl rfl, .inl rfl, .inl rfl, .inl rfl, .inl rfl, .inl rfl, .inl rfl, .inl rfl, .inl rfl, .inl rfl, trivial⟩
          · skip
            refine go_to (k := 3) (pc' := 60) (L' := [some (.inr (.inr (some 79))), some (.inl p1), none, some (.inl p3), none, some (.inl p5), some (.inl v_h6), some (.inl v_h14), some (.inl l30_8), some (.inl l30_9)]) (st' := [.inl l30_9, .inl p1, .inr (.inr (some 79)), .inl l30_8]) (w' := (SH, dt36)) (fun _ => rfl) ?_
            refine go_call (Q' := _) rfl rfl rfl rfl rfl (sp_X6_weighs L xs sio (d + 3) dt36 hI37 (MW_fr hM hF38 (by decide))  p1 ⟨by omega, by omega⟩ l30_9 ⟨by omega, by omega⟩ ) ?_
            rintro _ _ ⟨dt63, rfl, hI64, hF65, h62⟩
            refine ⟨rfl, ?_⟩
            have hF66 : Fr [86, 87, 88, 89, 90, 91, 92, 93, 94, 95, 96, 97, 98, 99, 100] dt dt63 := Fr_tr hF38 hF65 (by decide)
            rcases h62 with ⟨v_h62, rfl, h62r, h62⟩
            obtain ⟨h62_0, h62_1⟩ := h62
            have wv67 := h62_0
            rw [show dt36 80 = dt 80 from funext (qH 80 (by decide)), WH_fa qG] at wv67
            have ga68 : ∀ s : Nat, 1 ≤ s → s ≤ 6 → dt63 87 s = FQ (dt 80) p2 p3 p4 s := fun s a b => (hF65 87 (by decide) s).trans (qG s a b)
            have ve69 : VR dt63 = wend (dt 80) (dt 80 (5320 + 5 * p3.toNat)) := (VR_frS hF65 (fun k a b h_ => by simp at h_; omega)).trans qV
            refine go_to (k := 5) (pc' := 30) (L' := [some (.inr (.inr (some 79))), some (.inl p1), none, some (.inl p3), none, some (.inl p5), some (.inl v_h6), some (.inl v_h14), some (.inl (l30_8 + v_h62)), some (.inl (l30_9 + 1))]) (st' := []) (w' := (SH, dt63)) (fun _ => rfl) ?_
            exact GO.le (ih_loop45 (l30_8 + v_h62) (l30_9 + 1) dt63 hI64 hF66 (by first | omega | exact ga68 | exact ve69 | (intro z_; first | omega | rfl)) (by first | omega | exact ga68 | exact ve69 | (intro z_; first | omega | rfl)) (by first | omega | exact ga68 | exact ve69 | (intro z_; first | omega | rfl)) (by first | omega | exact ga68 | exact ve69 | (intro z_; first | omega | rfl)) (by first | omega | exact ga68 | exact ve69 | (intro z_; first | omega | rfl)) (by first | omega | exact ga68 | exact ve69 | (intro z_; first | omega | rfl)) (by omega)) ⟨.inl rfl, .inl rfl, .inl rfl, .inl rfl, .inl rfl, .inl rfl, .inl rfl, .inl rfl, .inl rfl, .inl rfl, trivial⟩
  exact GO.le (loop45 _ 0 0 dt15 hI16 hF18 (by first | omega | exact ga20 | exact ve21 | (intro z_; first | omega | rfl)) (by first | omega | exact ga20 | exact ve21 | (intro z_; first | omega | rfl)) (by first | omega | exact ga20 | exact ve21 | (intro z_; first | omega | rfl)) (by first | omega | exact ga20 | exact ve21 | (intro z_; first | omega | rfl)) (by first | omega | exact ga20 | exact ve21 | (intro z_; first | omega | rfl)) (by first | omega | exact ga20 | exact ve21 | (intro z_; first | omega | rfl)) (Nat.lt_succ_self _)) ⟨.inl rfl, .inl rfl, .inr ⟨rfl, trivial⟩, .inl rfl, .inr ⟨rfl, trivial⟩, .inl rfl, .inl rfl, .inl rfl, .inl rfl, .inl rfl, trivial⟩
set_option maxRecDepth 20000 in
theorem chk_sp_X6_chance_f (L : Nat) (xs : Nat → Int32) (sio : Option Nat) (d : Nat) (dt : Nat → Nat → Int) (hI : InvC dt) (hM : MW (dt 80))  (p1 : Int) (h_p1 : (-2147483648) ≤ p1 ∧ p1 ≤ 2147483647) (p2 : Int) (h_p2 : (-2147483648) ≤ p2 ∧ p2 ≤ 2147483647) (p3 : Int) (h_p3 : (-2147483648) ≤ p3 ∧ p3 ≤ 2147483647) (p4 : Int) (h_p4 : (-2147483648) ≤ p4 ∧ p4 ≤ 2147483647) (p5 : Int) (h_p5 : (-2147483648) ≤ p5 ∧ p5 ≤ 2147483647)  : GO (am_XX L xs sio) (d + 7) 216 0 [some (.inr (.inr (some 79))), some (.inl p1), some (.inl p2), some (.inl p3), some (.inl p4), some (.inl p5)] [] (SH, dt) (fun r w2 => ∃ dt2 : Nat → Nat → Int, w2 = (SH, dt2) ∧ InvC dt2 ∧ Fr [86, 87, 88, 89, 90, 91, 92, 93, 94, 95, 96, 97, 98, 99, 100] dt dt2 ∧ ((r = some (.inl (-1)) ∧ (¬ ((0 ≤ p1 ∧ p1 ≤ 3) ∧ (0 ≤ p2 ∧ p2 < dt 80 2) ∧ (0 ≤ p3 ∧ p3 < dt 80 1) ∧ (0 ≤ p4 ∧ p4 ≤ 3) ∧ ((-1) ≤ p5 ∧ p5 ≤ 3)))) ∨ (∃ v : Int, r = some (.inl v) ∧ (0 ≤ v ∧ v ≤ 1000) ∧ ((0 ≤ p1 ∧ p1 ≤ 3) ∧ (0 ≤ p2 ∧ p2 < dt 80 2) ∧ (0 ≤ p3 ∧ p3 < dt 80 1) ∧ (0 ≤ p4 ∧ p4 ≤ 3) ∧ ((-1) ≤ p5 ∧ p5 ≤ 3)) ∧ (v = CHN (dt 80) p1 p2 p3 p4 p5)))) := by
  have hF : Fr [86, 87, 88, 89, 90, 91, 92, 93, 94, 95, 96, 97, 98, 99, 100] dt dt := Fr_refl
  have r1 : (-2147483648) ≤ dt 80 1 ∧ dt 80 1 ≤ 2147483647 := InvC_get hI 80 1 rfl rfl
  have r2 := MW_n hM
  have r3 : (-2147483648) ≤ dt 80 2 ∧ dt 80 2 ≤ 2147483647 := InvC_get hI 80 2 rfl rfl
  refine go_to (k := 1) (pc' := 1) (L' := [some (.inr (.inr (some 79))), some (.inl p1), some (.inl p2), some (.inl p3), some (.inl p4), some (.inl p5)]) (st' := [.inl p1]) (w' := (SH, dt)) (fun _ => rfl) ?_
  refine go_call (Q' := _) rfl rfl rfl rfl rfl (sp_X6_isLaw L xs sio (d + 5) dt hI  p1 ⟨by omega, by omega⟩ ) ?_
  rintro _ _ ⟨rfl, h4⟩
  refine ⟨rfl, ?_⟩
  rcases h4 with ⟨rfl, h4⟩ | ⟨rfl, h4⟩
  · skip
    refine go_to (k := 3) (pc' := 9) (L' := [some (.inr (.inr (some 79))), some (.inl p1), some (.inl p2), some (.inl p3), some (.inl p4), some (.inl p5)]) (st' := [.inl p2, .inr (.inr (some 79))]) (w' := (SH, dt)) (fun _ => rfl) ?_
    refine go_call (Q' := _) rfl rfl rfl rfl rfl (sp_X6_isChild L xs sio (d + 5) dt hI hM  p2 ⟨by omega, by omega⟩ ) ?_
    rintro _ _ ⟨rfl, h5⟩
    refine ⟨rfl, ?_⟩
    rcases h5 with ⟨rfl, h5⟩ | ⟨rfl, h5⟩
    · skip
      refine go_to (k := 3) (pc' := 17) (L' := [some (.inr (.inr (some 79))), some (.inl p1), some (.inl p2), some (.inl p3), some (.inl p4), some (.inl p5)]) (st' := [.inl p3, .inr (.inr (some 79))]) (w' := (SH, dt)) (fun _ => rfl) ?_
      refine go_call (Q' := _) rfl rfl rfl rfl rfl (sp_X6_isQuestion L xs sio (d + 5) dt hI hM  p3 ⟨by omega, by omega⟩ ) ?_
      rintro _ _ ⟨rfl, h6⟩
      refine ⟨rfl, ?_⟩
      rcases h6 with ⟨rfl, h6⟩ | ⟨rfl, h6⟩
      · skip
        refine go_to (k := 2) (pc' := 25) (L' := [some (.inr (.inr (some 79))), some (.inl p1), some (.inl p2), some (.inl p3), some (.inl p4), some (.inl p5)]) (st' := [.inl p4]) (w' := (SH, dt)) (fun _ => rfl) ?_
        refine go_call (Q' := _) rfl rfl rfl rfl rfl (sp_X6_isHow L xs sio (d + 5) dt hI  p4 ⟨by omega, by omega⟩ ) ?_
        rintro _ _ ⟨rfl, h7⟩
        refine ⟨rfl, ?_⟩
        rcases h7 with ⟨rfl, h7⟩ | ⟨rfl, h7⟩
        · skip
          refine go_to (k := 2) (pc' := 33) (L' := [some (.inr (.inr (some 79))), some (.inl p1), some (.inl p2), some (.inl p3), some (.inl p4), some (.inl p5)]) (st' := [.inl p5]) (w' := (SH, dt)) (fun _ => rfl) ?_
          refine go_call (Q' := _) rfl rfl rfl rfl rfl (sp_X6_isAnswer L xs sio (d + 5) dt hI  p5 ⟨by omega, by omega⟩ ) ?_
          rintro _ _ ⟨rfl, h8⟩
          refine ⟨rfl, ?_⟩
          rcases h8 with ⟨rfl, h8⟩ | ⟨rfl, h8⟩
          · skip
            refine go_to (k := 7) (pc' := 47) (L' := [some (.inr (.inr (some 79))), some (.inl p1), some (.inl p2), some (.inl p3), some (.inl p4), some (.inl p5)]) (st' := [.inl p5, .inl p4, .inl p3, .inl p2, .inl p1, .inr (.inr (some 79))]) (w' := (SH, dt)) (fun _ => rfl) ?_
            refine go_call (Q' := _) rfl rfl rfl rfl rfl (sp_X6_chanceOf_f L xs sio (d + 0) dt hI hM  p1 ⟨by omega, by omega⟩ p2 ⟨by omega, by omega⟩ p3 ⟨by omega, by omega⟩ p4 ⟨by omega, by omega⟩ p5 ⟨by omega, by omega⟩ ) ?_
            rintro _ _ ⟨dt10, rfl, hI11, hF12, h9⟩
            refine ⟨rfl, ?_⟩
            have hF13 : Fr [86, 87, 88, 89, 90, 91, 92, 93, 94, 95, 96, 97, 98, 99, 100] dt dt10 := Fr_tr hF hF12 (by decide)
            rcases h9 with ⟨v_h9, rfl, h9r, h9⟩
            refine go_ret (k := 2) (r := some (.inl v_h9)) (w1 := (SH, dt10)) (fun _ => rfl) ?_
            exact ⟨dt10, rfl, hI11, hF13, (Or.inr ⟨_, rfl, ⟨by omega, by omega⟩, ⟨by first | trivial | omega, by first | trivial | omega⟩⟩)⟩
          · skip
            refine go_ret (k := 3) (r := some (.inl (-1))) (w1 := (SH, dt)) (fun _ => rfl) ?_
            first | exact ⟨dt, rfl, hI, hF, (Or.inl ⟨rfl, by first | trivial | omega⟩)⟩ | exact ⟨dt, rfl, hI, hF, (Or.inr ⟨_, rfl, ⟨by omega, by omega⟩, ⟨by first | trivial | omega, by first | trivial | omega⟩⟩)⟩
        · skip
          refine go_ret (k := 3) (r := some (.inl (-1))) (w1 := (SH, dt)) (fun _ => rfl) ?_
          first | exact ⟨dt, rfl, hI, hF, (Or.inl ⟨rfl, by first | trivial | omega⟩)⟩ | exact ⟨dt, rfl, hI, hF, (Or.inr ⟨_, rfl, ⟨by omega, by omega⟩, ⟨by first | trivial | omega, by first | trivial | omega⟩⟩)⟩
      · skip
        refine go_ret (k := 3) (r := some (.inl (-1))) (w1 := (SH, dt)) (fun _ => rfl) ?_
        first | exact ⟨dt, rfl, hI, hF, (Or.inl ⟨rfl, by first | trivial | omega⟩)⟩ | exact ⟨dt, rfl, hI, hF, (Or.inr ⟨_, rfl, ⟨by omega, by omega⟩, ⟨by first | trivial | omega, by first | trivial | omega⟩⟩)⟩
    · skip
      refine go_ret (k := 3) (r := some (.inl (-1))) (w1 := (SH, dt)) (fun _ => rfl) ?_
      first | exact ⟨dt, rfl, hI, hF, (Or.inl ⟨rfl, by first | trivial | omega⟩)⟩ | exact ⟨dt, rfl, hI, hF, (Or.inr ⟨_, rfl, ⟨by omega, by omega⟩, ⟨by first | trivial | omega, by first | trivial | omega⟩⟩)⟩
  · skip
    refine go_ret (k := 3) (r := some (.inl (-1))) (w1 := (SH, dt)) (fun _ => rfl) ?_
    first | exact ⟨dt, rfl, hI, hF, (Or.inl ⟨rfl, by first | trivial | omega⟩)⟩ | exact ⟨dt, rfl, hI, hF, (Or.inr ⟨_, rfl, ⟨by omega, by omega⟩, ⟨by first | trivial | omega, by first | trivial | omega⟩⟩)⟩
theorem chk_sp_X5_farApartBy_f (L : Nat) (xs : Nat → Int32) (sio : Option Nat) (d : Nat) (dt : Nat → Nat → Int) (hI : InvC dt) (F : Nat → Int) (hMF : MW F) (p1 : Int) (h_p1 : 0 ≤ p1 ∧ p1 ≤ 3) (p2 : Int) (h_p2 : 0 ≤ p2 ∧ p2 ≤ 3) (p3 : Int) (h_p3 : 0 ≤ p3 ∧ p3 ≤ 39) (p4 : Int) (h_p4 : 0 ≤ p4 ∧ p4 ≤ 11) (p5 : Int) (h_p5 : 0 ≤ p5 ∧ p5 ≤ 3) (h_p0 : ALK dt F) (h_p1 : p3 < dt 10 3) (h_p2 : p4 < dt 7 3) : GO (am_XX L xs sio) (d + 5) 144 0 [some (.inr (.inr (some 0))), some (.inl p1), some (.inl p2), some (.inl p3), some (.inl p4), some (.inl p5), none, none] [] (SH, dt) (fun r w2 => ∃ dt2 : Nat → Nat → Int, w2 = (SH, dt2) ∧ InvC dt2 ∧ Fr [71, 72, 73, 74, 77] dt dt2 ∧ ((∃ v : Int, r = some (.inl v) ∧ (0 ≤ v ∧ v ≤ 5000) ∧ (v = FRF F p1 p2 p3 p4 p5 5)))) := by
  have hF : Fr [71, 72, 73, 74, 77] dt dt := Fr_refl
  refine go_to (k := 5) (pc' := 7) (L' := [some (.inr (.inr (some 0))), some (.inl p1), some (.inl p2), some (.inl p3), some (.inl p4), some (.inl p5), none, none]) (st' := [.inl p5, .inl p4, .inl p3, .inl p1, .inr (.inr (some 0))]) (w' := (SH, dt)) (fun _ => rfl) ?_
  refine go_call (Q' := _) rfl rfl rfl rfl rfl (sp_X5_weigh_f L xs sio (d + 0) dt hI F hMF p1 ⟨by omega, by omega⟩ p3 ⟨by omega, by omega⟩ p4 ⟨by omega, by omega⟩ p5 ⟨by omega, by omega⟩ (by first | trivial | omega | exact hI | exact ALK_fr h_p0 hF (fun k a b z_ => by simp at z_; omega) | (rw [show dt 9 = dt 9 from funext (hF 9 (by decide))]; exact h_p0.2.2.1) | (rw [show dt 7 3 = dt 7 3 from hF 7 (by decide) 3]; first | omega | exact h_p0.2.2.2.2.1) | (rw [show dt 10 3 = dt 10 3 from hF 10 (by decide) 3]; omega)) (by first | trivial | omega | exact hI | exact ALK_fr h_p0 hF (fun k a b z_ => by simp at z_; omega) | (rw [show dt 9 = dt 9 from funext (hF 9 (by decide))]; exact h_p0.2.2.1) | (rw [show dt 7 3 = dt 7 3 from hF 7 (by decide) 3]; first | omega | exact h_p0.2.2.2.2.1) | (rw [show dt 10 3 = dt 10 3 from hF 10 (by decide) 3]; omega)) (by first | trivial | omega | exact hI | exact ALK_fr h_p0 hF (fun k a b z_ => by simp at z_; omega) | (rw [show dt 9 = dt 9 from funext (hF 9 (by decide))]; exact h_p0.2.2.1) | (rw [show dt 7 3 = dt 7 3 from hF 7 (by decide) 3]; first | omega | exact h_p0.2.2.2.2.1) | (rw [show dt 10 3 = dt 10 3 from hF 10 (by decide) 3]; omega))) ?_
  rintro _ _ ⟨dt2, rfl, hI3, hF4, h1⟩
  refine ⟨rfl, ?_⟩
  have hF5 : Fr [71, 72, 73, 74, 77] dt dt2 := Fr_tr hF hF4 (by decide)
  rcases h1 with ⟨rfl, h1⟩
  refine go_to (k := 2) (pc' := 13) (L' := [some (.inr (.inr (some 0))), some (.inl p1), some (.inl p2), some (.inl p3), some (.inl p4), some (.inl p5), some (.inl 0), none]) (st' := []) (w' := (SH, dt2)) (fun _ => rfl) ?_
  have loop23 : ∀ (k_ : Nat) (l13_6 : Int) (dt17 : Nat → Nat → Int) (hI18 : InvC dt17) (hF19 : Fr [71, 72, 73, 74, 77] dt dt17) (i20 : 0 ≤ l13_6 ∧ l13_6 ≤ 5) (i21 : WGT (dt17 72) (dt17 71 1) F (FQ F p3 p4 p5) p1) (i22 : ∀ j : Nat, (j : Int) < l13_6 → dt17 77 j = CHN F p1 p3 p4 p5 (ANC (j : Int))), (6 - l13_6).toNat < k_ → GO (am_XX L xs sio) (d + 5) 144 13 [some (.inr (.inr (some 0))), none, some (.inl p2), some (.inl p3), some (.inl p4), some (.inl p5), some (.inl l13_6), none] [] (SH, dt17) (fun r w2 => ∃ dt2 : Nat → Nat → Int, w2 = (SH, dt2) ∧ InvC dt2 ∧ Fr [71, 72, 73, 74, 77] dt dt2 ∧ ((∃ v : Int, r = some (.inl v) ∧ (0 ≤ v ∧ v ≤ 5000) ∧ (v = FRF F p1 p2 p3 p4 p5 5)))) := by
    intro k_
    induction k_ with
    | zero => intro l13_6 dt17 hI18 hF19 i20 i21 i22 hm; exact absurd hm (Nat.not_lt_zero _)
    | succ k_ ih_loop23 =>
      intro l13_6 dt17 hI18 hF19 i20 i21 i22 hm
      have qw := i21
      have qa := i22
      refine go_if (k := 5) (p1 := 54) (p2 := 23) (L' := [some (.inr (.inr (some 0))), none, some (.inl p2), some (.inl p3), some (.inl p4), some (.inl p5), some (.inl l13_6), none]) (st' := []) (w' := (SH, dt17)) (fun _ => rfl) (c_ge (a := l13_6) (b := 5) ⟨by omega, by omega⟩ ⟨by omega, by omega⟩) (fun c24 => ?_) (fun c24 => ?_)
      · skip
        refine go_to (k := 5) (pc' := 61) (L' := [some (.inr (.inr (some 0))), none, some (.inl p2), some (.inl p3), some (.inl p4), some (.inl p5), some (.inl l13_6), none]) (st' := [.inl p5, .inl p4, .inl p3, .inl p2, .inr (.inr (some 0))]) (w' := (SH, dt17)) (fun _ => rfl) ?_
        refine go_call (Q' := _) rfl rfl rfl rfl rfl (sp_X5_weigh_f L xs sio (d + 0) dt17 hI18 F hMF p2 ⟨by omega, by omega⟩ p3 ⟨by omega, by omega⟩ p4 ⟨by omega, by omega⟩ p5 ⟨by omega, by omega⟩ (by first | trivial | omega | exact qw | exact ALK_fr h_p0 hF19 (fun k a b z_ => by simp at z_; omega) | (rw [show dt17 9 = dt 9 from funext (hF19 9 (by decide))]; exact h_p0.2.2.1) | (rw [show dt17 7 3 = dt 7 3 from hF19 7 (by decide) 3]; first | omega | exact h_p0.2.2.2.2.1) | (rw [show dt17 10 3 = dt 10 3 from hF19 10 (by decide) 3]; omega)) (by first | trivial | omega | exact qw | exact ALK_fr h_p0 hF19 (fun k a b z_ => by simp at z_; omega) | (rw [show dt17 9 = dt 9 from funext (hF19 9 (by decide))]; exact h_p0.2.2.1) | (rw [show dt17 7 3 = dt 7 3 from hF19 7 (by decide) 3]; first | omega | exact h_p0.2.2.2.2.1) | (rw [show dt17 10 3 = dt 10 3 from hF19 10 (by decide) 3]; omega)) (by first | trivial | omega | exact qw | exact ALK_fr h_p0 hF19 (fun k a b z_ => by simp at z_; omega) | (rw [show dt17 9 = dt 9 from funext (hF19 9 (by decide))]; exact h_p0.2.2.1) | (rw [show dt17 7 3 = dt 7 3 from hF19 7 (by decide) 3]; first | omega | exact h_p0.2.2.2.2.1) | (rw [show dt17 10 3 = dt 10 3 from hF19 10 (by decide) 3]; omega))) ?_
        rintro _ _ ⟨dt26, rfl, hI27, hF28, h25⟩
        refine ⟨rfl, ?_⟩
        have hF29 : Fr [71, 72, 73, 74, 77] dt dt26 := Fr_tr hF19 hF28 (by decide)
        rcases h25 with ⟨rfl, h25⟩
        have ap30 : ∀ j : Nat, (j : Int) < 5 → dt26 77 j = CHN F p1 p3 p4 p5 (ANC (j : Int)) := fun j hj => (hF28 77 (by decide) j).trans (qa j (by omega))
        refine go_to (k := 4) (pc' := 70) (L' := [some (.inr (.inr (some 0))), none, some (.inl p2), some (.inl p3), some (.inl p4), some (.inl p5), some (.inl 0), some (.inl 0)]) (st' := []) (w' := (SH, dt26)) (fun _ => rfl) ?_
        have loop47 : ∀ (k_ : Nat) (l70_6 : Int) (l70_7 : Int) (i43 : 0 ≤ l70_6 ∧ l70_6 ≤ 5000) (i44 : 0 ≤ l70_7 ∧ l70_7 ≤ 5) (i45 : l70_6 = FCL F p1 p2 p3 p4 p5 l70_7.toNat) (i46 : l70_6 ≤ 1000 * l70_7), (6 - l70_7).toNat < k_ → GO (am_XX L xs sio) (d + 5) 144 70 [some (.inr (.inr (some 0))), none, none, none, some (.inl p4), none, some (.inl l70_6), some (.inl l70_7)] [] (SH, dt26) (fun r w2 => ∃ dt2 : Nat → Nat → Int, w2 = (SH, dt2) ∧ InvC dt2 ∧ Fr [71, 72, 73, 74, 77] dt dt2 ∧ ((∃ v : Int, r = some (.inl v) ∧ (0 ≤ v ∧ v ≤ 5000) ∧ (v = FRF F p1 p2 p3 p4 p5 5)))) := by
          intro k_
          induction k_ with
          | zero => intro l70_6 l70_7 i43 i44 i45 i46 hm; exact absurd hm (Nat.not_lt_zero _)
          | succ k_ ih_loop47 =>
            intro l70_6 l70_7 i43 i44 i45 i46 hm
            have qs := i45
            have qy := FCL_s (f := F) (l1 := p1) (l2 := p2) (c := p3) (q := p4) (how := p5) (i := l70_7) (by omega)
            have qr := DFF_R (f := F) (l1 := p1) (l2 := p2) (c := p3) (q := p4) (how := p5) (a := ANC l70_7)
            have qz : l70_7 < 5 → _ := fun (z_ : l70_7 < 5) => ap30 l70_7.toNat (by omega)
            refine go_if (k := 5) (p1 := 120) (p2 := 80) (L' := [some (.inr (.inr (some 0))), none, none, none, some (.inl p4), none, some (.inl l70_6), some (.inl l70_7)]) (st' := []) (w' := (SH, dt26)) (fun _ => rfl) (c_ge (a := l70_7) (b := 5) ⟨by omega, by omega⟩ ⟨by omega, by omega⟩) (fun c48 => ?_) (fun c48 => ?_)
            · skip
              refine go_ret (k := 2) (r := some (.inl l70_6)) (w1 := (SH, dt26)) (fun _ => rfl) ?_
              exact ⟨dt26, rfl, hI27, hF29, ⟨_, rfl, ⟨by omega, by omega⟩, by rw [← FCR]; exact (show _ = FCL F p1 p2 p3 p4 p5 5 from by have z_ := qs; rw [show l70_7.toNat = 5 by omega] at z_; exact z_)⟩⟩
            · skip
              refine go_to (k := 4) (pc' := 88) (L' := [some (.inr (.inr (some 0))), none, none, none, some (.inl p4), none, some (.inl l70_6), some (.inl l70_7)]) (st' := [.inl l70_7, .inr (.inr (some 77)), .inl l70_6]) (w' := (SH, dt26)) (fun _ => rfl) ?_
              have r49 : (-2147483648) ≤ dt26 77 (l70_7).toNat ∧ dt26 77 (l70_7).toNat ≤ 2147483647 := InvC_get hI27 77 (l70_7).toNat rfl rfl
              refine go_smp (L' := [some (.inr (.inr (some 0))), none, none, none, some (.inl p4), none, some (.inl l70_6), some (.inl l70_7)]) (st' := [.inl (dt26 77 (l70_7).toNat), .inl l70_6]) (w' := (SH, dt26)) rfl rfl (s_iald (n := 5) (f := dt26 77) rfl ⟨by omega, by omega⟩) ?_
              have hb_ : 0 ≤ dt26 77 (l70_7).toNat ∧ dt26 77 (l70_7).toNat ≤ 1000 := by rw [qz (by omega)]; exact CHN_R
              refine go_if (k := 5) (p1 := 103) (p2 := 98) (L' := [some (.inr (.inr (some 0))), none, none, none, some (.inl p4), none, some (.inl l70_6), some (.inl l70_7)]) (st' := [.inl p4, .inr (.inr (some 0)), .inl (dt26 77 (l70_7).toNat), .inl l70_6]) (w' := (SH, dt26)) (fun _ => rfl) (c_ge (a := l70_7) (b := 4) ⟨by omega, by omega⟩ ⟨by omega, by omega⟩) (fun c50 => ?_) (fun c50 => ?_)
              · skip
                refine go_to (k := 1) (pc' := 104) (L' := [some (.inr (.inr (some 0))), none, none, none, some (.inl p4), none, some (.inl l70_6), some (.inl l70_7)]) (st' := [.inl (-1), .inl p4, .inr (.inr (some 0)), .inl (dt26 77 (l70_7).toNat), .inl l70_6]) (w' := (SH, dt26)) (fun _ => rfl) ?_
                refine go_call (Q' := _) rfl rfl rfl rfl rfl (sp_X5_weighedChance_f L xs sio (d + 2) dt26 hI27 F hMF (FQ F p3 p4 p5) p2 p4 ⟨by omega, by omega⟩ (-1) ⟨by omega, by omega⟩ (by first | trivial | omega | exact h25 | exact ALK_fr h_p0 hF29 (fun k a b z_ => by simp at z_; omega) | (rw [show dt26 9 = dt 9 from funext (hF29 9 (by decide))]; exact h_p0.2.2.1) | (rw [show dt26 7 3 = dt 7 3 from hF29 7 (by decide) 3]; first | omega | exact h_p0.2.2.2.2.1) | (rw [show dt26 10 3 = dt 10 3 from hF29 10 (by decide) 3]; omega)) (by first | trivial | omega | exact h25 | exact ALK_fr h_p0 hF29 (fun k a b z_ => by simp at z_; omega) | (rw [show dt26 9 = dt 9 from funext (hF29 9 (by decide))]; exact h_p0.2.2.1) | (rw [show dt26 7 3 = dt 7 3 from hF29 7 (by decide) 3]; first | omega | exact h_p0.2.2.2.2.1) | (rw [show dt26 10 3 = dt 10 3 from hF29 10 (by decide) 3]; omega)) (by first | trivial | omega | exact h25 | exact ALK_fr h_p0 hF29 (fun k a b z_ => by simp at z_; omega) | (rw [show dt26 9 = dt 9 from funext (hF29 9 (by decide))]; exact h_p0.2.2.1) | (rw [show dt26 7 3 = dt 7 3 from hF29 7 (by decide) 3]; first | omega | exact h_p0.2.2.2.2.1) | (rw [show dt26 10 3 = dt 10 3 from hF29 10 (by decide) 3]; omega)) (by first | trivial | omega | exact h25 | exact ALK_fr h_p0 hF29 (fun k a b z_ => by simp at z_; omega) | (rw [show dt26 9 = dt 9 from funext (hF29 9 (by decide))]; exact h_p0.2.2.1) | (rw [show dt26 7 3 = dt 7 3 from hF29 7 (by decide) 3]; first | omega | exact h_p0.2.2.2.2.1) | (rw [show dt26 10 3 = dt 10 3 from hF29 10 (by decide) 3]; omega))) ?_
                rintro _ _ ⟨rfl, h51⟩
                refine ⟨rfl, ?_⟩
                rcases h51 with ⟨v_h51, rfl, h51r, h51⟩
                have ch52 := (h51).trans CHN_F.symm
                refine go_to (k := 1) (pc' := 108) (L' := [some (.inr (.inr (some 0))), none, none, none, some (.inl p4), none, some (.inl l70_6), some (.inl l70_7)]) (st' := [.inl ((dt26 77 (l70_7).toNat) - v_h51), .inl l70_6]) (w' := (SH, dt26)) (fun _ => rfl) ?_
                refine go_call (Q' := _) rfl rfl rfl rfl rfl (sp_J9_abs_0f7a4 L xs sio (d + 4) dt26 hI27  ((dt26 77 (l70_7).toNat) - v_h51) ⟨by omega, by omega⟩ ) ?_
                rintro _ _ ⟨rfl, h53⟩
                refine ⟨rfl, ?_⟩
                rcases h53 with ⟨v_h53, rfl, h53r, h53⟩
                have df54 : v_h53 = DFF F p1 p2 p3 p4 p5 (ANC l70_7) := by have z1_ := qz (by omega); have z3_ := ABS_e h53 (by omega); rw [show ((l70_7.toNat : Nat) : Int) = l70_7 by omega] at z1_; unfold DFF; rw [← z1_, show CHN F p2 p3 p4 p5 (ANC l70_7) = v_h51 from by unfold ANC; first | (rw [if_pos (by omega)]; exact ch52.symm) | (rw [if_neg (by omega)]; exact ch52.symm)]; exact z3_
                refine go_to (k := 4) (pc' := 70) (L' := [some (.inr (.inr (some 0))), none, none, none, some (.inl p4), none, some (.inl (l70_6 + v_h53)), some (.inl (l70_7 + 1))]) (st' := []) (w' := (SH, dt26)) (fun _ => rfl) ?_
                exact GO.le (ih_loop47 (l70_6 + v_h53) (l70_7 + 1) (by first | omega | rfl) (by first | omega | rfl) (by first | omega | rfl) (by first | omega | rfl) (by omega)) ⟨.inl rfl, .inl rfl, .inl rfl, .inl rfl, .inl rfl, .inl rfl, .inl rfl, .inl rfl, trivial⟩
              · skip
                refine go_to (k := 2) (pc' := 104) (L' := [some (.inr (.inr (some 0))), none, none, none, some (.inl p4), none, some (.inl l70_6), some (.inl l70_7)]) (st' := [.inl l70_7, .inl p4, .inr (.inr (some 0)), .inl (dt26 77 (l70_7).toNat), .inl l70_6]) (w' := (SH, dt26)) (fun _ => rfl) ?_
                refine go_call (Q' := _) rfl rfl rfl rfl rfl (sp_X5_weighedChance_f L xs sio (d + 2) dt26 hI27 F hMF (FQ F p3 p4 p5) p2 p4 ⟨by omega, by omega⟩ l70_7 ⟨by omega, by omega⟩ (by first | trivial | omega | exact h25 | exact ALK_fr h_p0 hF29 (fun k a b z_ => by simp at z_; omega) | (rw [show dt26 9 = dt 9 from funext (hF29 9 (by decide))]; exact h_p0.2.2.1) | (rw [show dt26 7 3 = dt 7 3 from hF29 7 (by decide) 3]; first | omega | exact h_p0.2.2.2.2.1) | (rw [show dt26 10 3 = dt 10 3 from hF29 10 (by decide) 3]; omega)) (by first | trivial | omega | exact h25 | exact ALK_fr h_p0 hF29 (fun k a b z_ => by simp at z_; omega) | (rw [show dt26 9 = dt 9 from funext (hF29 9 (by decide))]; exact h_p0.2.2.1) | (rw [show dt26 7 3 = dt 7 3 from hF29 7 (by decide) 3]; first | omega | exact h_p0.2.2.2.2.1) | (rw [show dt26 10 3 = dt 10 3 from hF29 10 (by decide) 3]; omega)) (by first | trivial | omega | exact h25 | exact ALK_fr h_p0 hF29 (fun k a b z_ => by simp at z_; omega) | (rw [show dt26 9 = dt 9 from funext (hF29 9 (by decide))]; exact h_p0.2.2.1) | (rw [show dt26 7 3 = dt 7 3 from hF29 7 (by decide) 3]; first | omega | exact h_p0.2.2.2.2.1) | (rw [show dt26 10 3 = dt 10 3 from hF29 10 (by decide) 3]; omega)) (by first | trivial | omega | exact h25 | exact ALK_fr h_p0 hF29 (fun k a b z_ => by simp at z_; omega) | (rw [show dt26 9 = dt 9 from funext (hF29 9 (by decide))]; exact h_p0.2.2.1) | (rw [show dt26 7 3 = dt 7 3 from hF29 7 (by decide) 3]; first | omega | exact h_p0.2.2.2.2.1) | (rw [show dt26 10 3 = dt 10 3 from hF29 10 (by decide) 3]; omega))) ?_
                rintro _ _ ⟨rfl, h55⟩
                refine ⟨rfl, ?_⟩
                rcases h55 with ⟨v_h55, rfl, h55r, h55⟩
                have ch56 := (h55).trans CHN_F.symm
                refine go_to (k := 1) (pc' := 108) (L' := [some (.inr (.inr (some 0))), none, none, none, some (.inl p4), none, some (.inl l70_6), some (.inl l70_7)]) (st' := [.inl ((dt26 77 (l70_7).toNat) - v_h55), .inl l70_6]) (w' := (SH, dt26)) (fun _ => rfl) ?_
                refine go_call (Q' := _) rfl rfl rfl rfl rfl (sp_J9_abs_0f7a4 L xs sio (d + 4) dt26 hI27  ((dt26 77 (l70_7).toNat) - v_h55) ⟨by omega, by omega⟩ ) ?_
                rintro _ _ ⟨rfl, h57⟩
                refine ⟨rfl, ?_⟩
                rcases h57 with ⟨v_h57, rfl, h57r, h57⟩
                have df58 : v_h57 = DFF F p1 p2 p3 p4 p5 (ANC l70_7) := by have z1_ := qz (by omega); have z3_ := ABS_e h57 (by omega); rw [show ((l70_7.toNat : Nat) : Int) = l70_7 by omega] at z1_; unfold DFF; rw [← z1_, show CHN F p2 p3 p4 p5 (ANC l70_7) = v_h55 from by unfold ANC; first | (rw [if_pos (by omega)]; exact ch56.symm) | (rw [if_neg (by omega)]; exact ch56.symm)]; exact z3_
                refine go_to (k := 4) (pc' := 70) (L' := [some (.inr (.inr (some 0))), none, none, none, some (.inl p4), none, some (.inl (l70_6 + v_h57)), some (.inl (l70_7 + 1))]) (st' := []) (w' := (SH, dt26)) (fun _ => rfl) ?_
                exact GO.le (ih_loop47 (l70_6 + v_h57) (l70_7 + 1) (by first | omega | rfl) (by first | omega | rfl) (by first | omega | rfl) (by first | omega | rfl) (by omega)) ⟨.inl rfl, .inl rfl, .inl rfl, .inl rfl, .inl rfl, .inl rfl, .inl rfl, .inl rfl, trivial⟩
        exact GO.le (loop47 _ 0 0 (by first | omega | rfl) (by first | omega | rfl) (by first | omega | rfl) (by first | omega | rfl) (Nat.lt_succ_self _)) ⟨.inl rfl, .inl rfl, .inr ⟨rfl, trivial⟩, .inr ⟨rfl, trivial⟩, .inl rfl, .inr ⟨rfl, trivial⟩, .inl rfl, .inl rfl, trivial⟩
      · skip
        refine go_if (k := 8) (p1 := 43) (p2 := 38) (L' := [some (.inr (.inr (some 0))), none, some (.inl p2), some (.inl p3), some (.inl p4), some (.inl p5), some (.inl l13_6), none]) (st' := [.inl p4, .inr (.inr (some 0)), .inl l13_6, .inr (.inr (some 77))]) (w' := (SH, dt17)) (fun _ => rfl) (c_ge (a := l13_6) (b := 4) ⟨by omega, by omega⟩ ⟨by omega, by omega⟩) (fun c59 => ?_) (fun c59 => ?_)
        · skip
          refine go_to (k := 1) (pc' := 44) (L' := [some (.inr (.inr (some 0))), none, some (.inl p2), some (.inl p3), some (.inl p4), some (.inl p5), some (.inl l13_6), none]) (st' := [.inl (-1), .inl p4, .inr (.inr (some 0)), .inl l13_6, .inr (.inr (some 77))]) (w' := (SH, dt17)) (fun _ => rfl) ?_
          refine go_call (Q' := _) rfl rfl rfl rfl rfl (sp_X5_weighedChance_f L xs sio (d + 2) dt17 hI18 F hMF (FQ F p3 p4 p5) p1 p4 ⟨by omega, by omega⟩ (-1) ⟨by omega, by omega⟩ (by first | trivial | omega | exact qw | exact ALK_fr h_p0 hF19 (fun k a b z_ => by simp at z_; omega) | (rw [show dt17 9 = dt 9 from funext (hF19 9 (by decide))]; exact h_p0.2.2.1) | (rw [show dt17 7 3 = dt 7 3 from hF19 7 (by decide) 3]; first | omega | exact h_p0.2.2.2.2.1) | (rw [show dt17 10 3 = dt 10 3 from hF19 10 (by decide) 3]; omega)) (by first | trivial | omega | exact qw | exact ALK_fr h_p0 hF19 (fun k a b z_ => by simp at z_; omega) | (rw [show dt17 9 = dt 9 from funext (hF19 9 (by decide))]; exact h_p0.2.2.1) | (rw [show dt17 7 3 = dt 7 3 from hF19 7 (by decide) 3]; first | omega | exact h_p0.2.2.2.2.1) | (rw [show dt17 10 3 = dt 10 3 from hF19 10 (by decide) 3]; omega)) (by first | trivial | omega | exact qw | exact ALK_fr h_p0 hF19 (fun k a b z_ => by simp at z_; omega) | (rw [show dt17 9 = dt 9 from funext (hF19 9 (by decide))]; exact h_p0.2.2.1) | (rw [show dt17 7 3 = dt 7 3 from hF19 7 (by decide) 3]; first | omega | exact h_p0.2.2.2.2.1) | (rw [show dt17 10 3 = dt 10 3 from hF19 10 (by decide) 3]; omega)) (by first | trivial | omega | exact qw | exact ALK_fr h_p0 hF19 (fun k a b z_ => by simp at z_; omega) | (rw [show dt17 9 = dt 9 from funext (hF19 9 (by decide))]; exact h_p0.2.2.1) | (rw [show dt17 7 3 = dt 7 3 from hF19 7 (by decide) 3]; first | omega | exact h_p0.2.2.2.2.1) | (rw [show dt17 10 3 = dt 10 3 from hF19 10 (by decide) 3]; omega))) ?_
          rintro _ _ ⟨rfl, h60⟩
          refine ⟨rfl, ?_⟩
          rcases h60 with ⟨v_h60, rfl, h60r, h60⟩
          have ch61 := (h60).trans CHN_F.symm
          have hI62 : InvC (u2 dt17 77 (l13_6).toNat v_h60) := InvC_u2 hI18 (lo := -2147483648) (hi := 2147483647) rfl rfl rfl (by omega) (by omega)
          have hF63 : Fr [71, 72, 73, 74, 77] dt (u2 dt17 77 (l13_6).toNat v_h60) := Fr_u2 hF19 (by decide)
          refine go_smp (L' := [some (.inr (.inr (some 0))), none, some (.inl p2), some (.inl p3), some (.inl p4), some (.inl p5), some (.inl l13_6), none]) (st' := []) (w' := (SH, (u2 dt17 77 (l13_6).toNat v_h60))) rfl rfl (s_iast (n := 5) rfl ⟨by omega, by omega⟩ ⟨by omega, by omega⟩) ?_
          refine go_to (k := 2) (pc' := 13) (L' := [some (.inr (.inr (some 0))), none, some (.inl p2), some (.inl p3), some (.inl p4), some (.inl p5), some (.inl (l13_6 + 1)), none]) (st' := []) (w' := (SH, (u2 dt17 77 (l13_6).toNat v_h60))) (fun _ => rfl) ?_
          exact GO.le (ih_loop23 (l13_6 + 1) (u2 dt17 77 (l13_6).toNat v_h60) hI62 hF63 (by first | omega | (intro j hj; omega) | exact qw | (intro j hj; by_cases e_ : (j : Int) = l13_6; (rw [show j = l13_6.toNat by omega, u2_eq, show ((l13_6.toNat : Nat) : Int) = l13_6 by omega]; rw [ch61]; unfold ANC; first | (rw [if_pos (by omega)]; done) | (rw [if_neg (by omega)]; done)); (rw [u2_ne (by omega)]; exact qa j (by omega))) | exact ⟨fun r hr => (u2_ne (by omega)).trans (qw.1 r hr), (u2_ne (by omega)).trans qw.2.1, (u2_ne (by omega)).trans qw.2.2⟩) (by first | omega | (intro j hj; omega) | exact qw | (intro j hj; by_cases e_ : (j : Int) = l13_6; (rw [show j = l13_6.toNat by omega, u2_eq, show ((l13_6.toNat : Nat) : Int) = l13_6 by omega]; rw [ch61]; unfold ANC; first | (rw [if_pos (by omega)]; done) | (rw [if_neg (by omega)]; done)); (rw [u2_ne (by omega)]; exact qa j (by omega))) | exact ⟨fun r hr => (u2_ne (by omega)).trans (qw.1 r hr), (u2_ne (by omega)).trans qw.2.1, (u2_ne (by omega)).trans qw.2.2⟩) (by first | omega | (intro j hj; omega) | exact qw | (intro j hj; by_cases e_ : (j : Int) = l13_6; (rw [show j = l13_6.toNat by omega, u2_eq, show ((l13_6.toNat : Nat) : Int) = l13_6 by omega]; rw [ch61]; unfold ANC; first | (rw [if_pos (by omega)]; done) | (rw [if_neg (by omega)]; done)); (rw [u2_ne (by omega)]; exact qa j (by omega))) | exact ⟨fun r hr => (u2_ne (by omega)).trans (qw.1 r hr), (u2_ne (by omega)).trans qw.2.1, (u2_ne (by omega)).trans qw.2.2⟩) (by omega)) ⟨.inl rfl, .inl rfl, .inl rfl, .inl rfl, .inl rfl, .inl rfl, .inl rfl, .inl rfl, trivial⟩
        · skip
          refine go_to (k := 2) (pc' := 44) (L' := [some (.inr (.inr (some 0))), none, some (.inl p2), some (.inl p3), some (.inl p4), some (.inl p5), some (.inl l13_6), none]) (st' := [.inl l13_6, .inl p4, .inr (.inr (some 0)), .inl l13_6, .inr (.inr (some 77))]) (w' := (SH, dt17)) (fun _ => rfl) ?_
          refine go_call (Q' := _) rfl rfl rfl rfl rfl (sp_X5_weighedChance_f L xs sio (d + 2) dt17 hI18 F hMF (FQ F p3 p4 p5) p1 p4 ⟨by omega, by omega⟩ l13_6 ⟨by omega, by omega⟩ (by first | trivial | omega | exact qw | exact ALK_fr h_p0 hF19 (fun k a b z_ => by simp at z_; omega) | (rw [show dt17 9 = dt 9 from funext (hF19 9 (by decide))]; exact h_p0.2.2.1) | (rw [show dt17 7 3 = dt 7 3 from hF19 7 (by decide) 3]; first | omega | exact h_p0.2.2.2.2.1) | (rw [show dt17 10 3 = dt 10 3 from hF19 10 (by decide) 3]; omega)) (by first | trivial | omega | exact qw | exact ALK_fr h_p0 hF19 (fun k a b z_ => by simp at z_; omega) | (rw [show dt17 9 = dt 9 from funext (hF19 9 (by decide))]; exact h_p0.2.2.1) | (rw [show dt17 7 3 = dt 7 3 from hF19 7 (by decide) 3]; first | omega | exact h_p0.2.2.2.2.1) | (rw [show dt17 10 3 = dt 10 3 from hF19 10 (by decide) 3]; omega)) (by first | trivial | omega | exact qw | exact ALK_fr h_p0 hF19 (fun k a b z_ => by simp at z_; omega) | (rw [show dt17 9 = dt 9 from funext (hF19 9 (by decide))]; exact h_p0.2.2.1) | (rw [show dt17 7 3 = dt 7 3 from hF19 7 (by decide) 3]; first | omega | exact h_p0.2.2.2.2.1) | (rw [show dt17 10 3 = dt 10 3 from hF19 10 (by decide) 3]; omega)) (by first | trivial | omega | exact qw | exact ALK_fr h_p0 hF19 (fun k a b z_ => by simp at z_; omega) | (rw [show dt17 9 = dt 9 from funext (hF19 9 (by decide))]; exact h_p0.2.2.1) | (rw [show dt17 7 3 = dt 7 3 from hF19 7 (by decide) 3]; first | omega | exact h_p0.2.2.2.2.1) | (rw [show dt17 10 3 = dt 10 3 from hF19 10 (by decide) 3]; omega))) ?_
          rintro _ _ ⟨rfl, h64⟩
          refine ⟨rfl, ?_⟩
          rcases h64 with ⟨v_h64, rfl, h64r, h64⟩
          have ch65 := (h64).trans CHN_F.symm
          have hI66 : InvC (u2 dt17 77 (l13_6).toNat v_h64) := InvC_u2 hI18 (lo := -2147483648) (hi := 2147483647) rfl rfl rfl (by omega) (by omega)
          have hF67 : Fr [71, 72, 73, 74, 77] dt (u2 dt17 77 (l13_6).toNat v_h64) := Fr_u2 hF19 (by decide)
          refine go_smp (L' := [some (.inr (.inr (some 0))), none, some (.inl p2), some (.inl p3), some (.inl p4), some (.inl p5), some (.inl l13_6), none]) (st' := []) (w' := (SH, (u2 dt17 77 (l13_6).toNat v_h64))) rfl rfl (s_iast (n := 5) rfl ⟨by omega, by omega⟩ ⟨by omega, by omega⟩) ?_
          refine go_to (k := 2) (pc' := 13) (L' := [some (.inr (.inr (some 0))), none, some (.inl p2), some (.inl p3), some (.inl p4), some (.inl p5), some (.inl (l13_6 + 1)), none]) (st' := []) (w' := (SH, (u2 dt17 77 (l13_6).toNat v_h64))) (fun _ => rfl) ?_
          exact GO.le (ih_loop23 (l13_6 + 1) (u2 dt17 77 (l13_6).toNat v_h64) hI66 hF67 (by first | omega | (intro j hj; omega) | exact qw | (intro j hj; by_cases e_ : (j : Int) = l13_6; (rw [show j = l13_6.toNat by omega, u2_eq, show ((l13_6.toNat : Nat) : Int) = l13_6 by omega]; rw [ch65]; unfold ANC; first | (rw [if_pos (by omega)]; done) | (rw [if_neg (by omega)]; done)); (rw [u2_ne (by omega)]; exact qa j (by omega))) | exact ⟨fun r hr => (u2_ne (by omega)).trans (qw.1 r hr), (u2_ne (by omega)).trans qw.2.1, (u2_ne (by omega)).trans qw.2.2⟩) (by first | omega | (intro j hj; omega) | exact qw | (intro j hj; by_cases e_ : (j : Int) = l13_6; (rw [show j = l13_6.toNat by omega, u2_eq, show ((l13_6.toNat : Nat) : Int) = l13_6 by omega]; rw [ch65]; unfold ANC; first | (rw [if_pos (by omega)]; done) | (rw [if_neg (by omega)]; done)); (rw [u2_ne (by omega)]; exact qa j (by omega))) | exact ⟨fun r hr => (u2_ne (by omega)).trans (qw.1 r hr), (u2_ne (by omega)).trans qw.2.1, (u2_ne (by omega)).trans qw.2.2⟩) (by first | omega | (intro j hj; omega) | exact qw | (intro j hj; by_cases e_ : (j : Int) = l13_6; (rw [show j = l13_6.toNat by omega, u2_eq, show ((l13_6.toNat : Nat) : Int) = l13_6 by omega]; rw [ch65]; unfold ANC; first | (rw [if_pos (by omega)]; done) | (rw [if_neg (by omega)]; done)); (rw [u2_ne (by omega)]; exact qa j (by omega))) | exact ⟨fun r hr => (u2_ne (by omega)).trans (qw.1 r hr), (u2_ne (by omega)).trans qw.2.1, (u2_ne (by omega)).trans qw.2.2⟩) (by omega)) ⟨.inl rfl, .inl rfl, .inl rfl, .inl rfl, .inl rfl, .inl rfl, .inl rfl, .inl rfl, trivial⟩
  exact GO.le (loop23 _ 0 dt2 hI3 hF5 (by first | omega | (intro j hj; omega) | exact h1 | (intro j hj; by_cases e_ : (j : Int) = l13_6; (rw [show j = l13_6.toNat by omega, u2_eq, show ((l13_6.toNat : Nat) : Int) = l13_6 by omega]; rw [hI]; unfold ANC; first | (rw [if_pos (by omega)]; done) | (rw [if_neg (by omega)]; done)); (rw [u2_ne (by omega)]; exact qa j (by omega))) | exact ⟨fun r hr => (u2_ne (by omega)).trans (h1.1 r hr), (u2_ne (by omega)).trans h1.2.1, (u2_ne (by omega)).trans h1.2.2⟩) (by first | omega | (intro j hj; omega) | exact h1 | (intro j hj; by_cases e_ : (j : Int) = l13_6; (rw [show j = l13_6.toNat by omega, u2_eq, show ((l13_6.toNat : Nat) : Int) = l13_6 by omega]; rw [hI]; unfold ANC; first | (rw [if_pos (by omega)]; done) | (rw [if_neg (by omega)]; done)); (rw [u2_ne (by omega)]; exact qa j (by omega))) | exact ⟨fun r hr => (u2_ne (by omega)).trans (h1.1 r hr), (u2_ne (by omega)).trans h1.2.1, (u2_ne (by omega)).trans h1.2.2⟩) (by first | omega | (intro j hj; omega) | exact h1 | (intro j hj; by_cases e_ : (j : Int) = l13_6; (rw [show j = l13_6.toNat by omega, u2_eq, show ((l13_6.toNat : Nat) : Int) = l13_6 by omega]; rw [hI]; unfold ANC; first | (rw [if_pos (by omega)]; done) | (rw [if_neg (by omega)]; done)); (rw [u2_ne (by omega)]; exact qa j (by omega))) | exact ⟨fun r hr => (u2_ne (by omega)).trans (h1.1 r hr), (u2_ne (by omega)).trans h1.2.1, (u2_ne (by omega)).trans h1.2.2⟩) (Nat.lt_succ_self _)) ⟨.inl rfl, .inr ⟨rfl, trivial⟩, .inl rfl, .inl rfl, .inl rfl, .inl rfl, .inl rfl, .inl rfl, trivial⟩
set_option maxRecDepth 20000 in
theorem chk_sp_X6_next_f (L : Nat) (xs : Nat → Int32) (sio : Option Nat) (d : Nat) (dt : Nat → Nat → Int) (hI : InvC dt) (hM : MW (dt 80))  (p1 : Int) (h_p1 : (-2147483648) ≤ p1 ∧ p1 ≤ 2147483647) (p2 : Int) (h_p2 : (-2147483648) ≤ p2 ∧ p2 ≤ 2147483647) (p3 : Int) (h_p3 : (-2147483648) ≤ p3 ∧ p3 ≤ 2147483647) (p4 : Int) (h_p4 : (-2147483648) ≤ p4 ∧ p4 ≤ 2147483647) (p5 : Int) (h_p5 : (-2147483648) ≤ p5 ∧ p5 ≤ 2147483647)  : GO (am_XX L xs sio) (d + 7) 246 0 [some (.inr (.inr (some 79))), some (.inl p1), some (.inl p2), some (.inl p3), some (.inl p4), some (.inl p5), none, none, none, none, none] [] (SH, dt) (fun r w2 => ∃ dt2 : Nat → Nat → Int, w2 = (SH, dt2) ∧ InvC dt2 ∧ Fr [86, 87, 88, 89, 90, 91, 92, 93, 94, 95, 96, 97, 98, 99, 100] dt dt2 ∧ ((r = some (.inl (-1)) ∧ (¬ ((0 ≤ p1 ∧ p1 ≤ 3) ∧ (0 ≤ p2 ∧ p2 ≤ 3) ∧ (0 ≤ p3 ∧ p3 < dt 80 2) ∧ (0 ≤ p4 ∧ p4 ≤ 3) ∧ (0 ≤ p5 ∧ p5 ≤ 1)))) ∨ (∃ v : Int, r = some (.inl v) ∧ ((-1) ≤ v ∧ v ≤ 5000) ∧ ((0 ≤ p1 ∧ p1 ≤ 3) ∧ (0 ≤ p2 ∧ p2 ≤ 3) ∧ (0 ≤ p3 ∧ p3 < dt 80 2) ∧ (0 ≤ p4 ∧ p4 ≤ 3) ∧ (0 ≤ p5 ∧ p5 ≤ 1)) ∧ (v = (if p5 = 0 then (NXB (FAR (dt 80) p1 p2 p3 p4) (dt 80 1).toNat).1 else (NXB (FAR (dt 80) p1 p2 p3 p4) (dt 80 1).toNat).2))))) := by
  have hF : Fr [86, 87, 88, 89, 90, 91, 92, 93, 94, 95, 96, 97, 98, 99, 100] dt dt := Fr_refl
  have r1 : (-2147483648) ≤ dt 80 1 ∧ dt 80 1 ≤ 2147483647 := InvC_get hI 80 1 rfl rfl
  have r2 := MW_n hM
  have r3 : (-2147483648) ≤ dt 80 2 ∧ dt 80 2 ≤ 2147483647 := InvC_get hI 80 2 rfl rfl
  refine go_to (k := 1) (pc' := 1) (L' := [some (.inr (.inr (some 79))), some (.inl p1), some (.inl p2), some (.inl p3), some (.inl p4), some (.inl p5), none, none, none, none, none]) (st' := [.inl p1]) (w' := (SH, dt)) (fun _ => rfl) ?_
  refine go_call (Q' := _) rfl rfl rfl rfl rfl (sp_X6_isLaw L xs sio (d + 5) dt hI  p1 ⟨by omega, by omega⟩ ) ?_
  rintro _ _ ⟨rfl, h4⟩
  refine ⟨rfl, ?_⟩
  rcases h4 with ⟨rfl, h4⟩ | ⟨rfl, h4⟩
  · skip
    refine go_to (k := 2) (pc' := 8) (L' := [some (.inr (.inr (some 79))), some (.inl p1), some (.inl p2), some (.inl p3), some (.inl p4), some (.inl p5), none, none, none, none, none]) (st' := [.inl p2]) (w' := (SH, dt)) (fun _ => rfl) ?_
    refine go_call (Q' := _) rfl rfl rfl rfl rfl (sp_X6_isLaw L xs sio (d + 5) dt hI  p2 ⟨by omega, by omega⟩ ) ?_
    rintro _ _ ⟨rfl, h5⟩
    refine ⟨rfl, ?_⟩
    rcases h5 with ⟨rfl, h5⟩ | ⟨rfl, h5⟩
    · skip
      refine go_to (k := 3) (pc' := 16) (L' := [some (.inr (.inr (some 79))), some (.inl p1), some (.inl p2), some (.inl p3), some (.inl p4), some (.inl p5), none, none, none, none, none]) (st' := [.inl p3, .inr (.inr (some 79))]) (w' := (SH, dt)) (fun _ => rfl) ?_
      refine go_call (Q' := _) rfl rfl rfl rfl rfl (sp_X6_isChild L xs sio (d + 5) dt hI hM  p3 ⟨by omega, by omega⟩ ) ?_
      rintro _ _ ⟨rfl, h6⟩
      refine ⟨rfl, ?_⟩
      rcases h6 with ⟨rfl, h6⟩ | ⟨rfl, h6⟩
      · skip
        refine go_to (k := 2) (pc' := 24) (L' := [some (.inr (.inr (some 79))), some (.inl p1), some (.inl p2), some (.inl p3), some (.inl p4), some (.inl p5), none, none, none, none, none]) (st' := [.inl p4]) (w' := (SH, dt)) (fun _ => rfl) ?_
        refine go_call (Q' := _) rfl rfl rfl rfl rfl (sp_X6_isHow L xs sio (d + 5) dt hI  p4 ⟨by omega, by omega⟩ ) ?_
        rintro _ _ ⟨rfl, h7⟩
        refine ⟨rfl, ?_⟩
        rcases h7 with ⟨rfl, h7⟩ | ⟨rfl, h7⟩
        · skip
          refine go_to (k := 4) (pc' := 34) (L' := [some (.inr (.inr (some 79))), some (.inl p1), some (.inl p2), some (.inl p3), some (.inl p4), some (.inl p5), none, none, none, none, none]) (st' := [.inl 1, .inl 0, .inl p5]) (w' := (SH, dt)) (fun _ => rfl) ?_
          refine go_call (Q' := _) rfl rfl rfl rfl rfl (sp_X6_isIn L xs sio (d + 6) dt hI  p5 ⟨by omega, by omega⟩ 0 ⟨by omega, by omega⟩ 1 ⟨by omega, by omega⟩ ) ?_
          rintro _ _ ⟨rfl, h8⟩
          refine ⟨rfl, ?_⟩
          rcases h8 with ⟨rfl, h8⟩ | ⟨rfl, h8⟩
          · skip
            refine go_to (k := 7) (pc' := 51) (L' := [some (.inr (.inr (some 79))), some (.inl p1), some (.inl p2), some (.inl p3), some (.inl p4), some (.inl p5), some (.inl (-1)), some (.inl (-1)), some (.inl 0), none, none]) (st' := []) (w' := (SH, dt)) (fun _ => rfl) ?_
            have loop54 : ∀ (k_ : Nat) (l51_6 : Int) (l51_7 : Int) (l51_8 : Int) (dt45 : Nat → Nat → Int) (hI46 : InvC dt45) (hF47 : Fr [86, 87, 88, 89, 90, 91, 92, 93, 94, 95, 96, 97, 98, 99, 100] dt dt45) (i48 : (-1) ≤ l51_6 ∧ l51_6 ≤ 11) (i49 : (-1) ≤ l51_7 ∧ l51_7 ≤ 5000) (i50 : 0 ≤ l51_8 ∧ l51_8 ≤ 12) (i51 : l51_6 = (NXB (FAR (dt 80) p1 p2 p3 p4) l51_8.toNat).1) (i52 : l51_7 = (NXB (FAR (dt 80) p1 p2 p3 p4) l51_8.toNat).2) (i53 : l51_8 ≤ dt 80 1), (13 - l51_8).toNat < k_ → GO (am_XX L xs sio) (d + 7) 246 51 [some (.inr (.inr (some 79))), some (.inl p1), some (.inl p2), some (.inl p3), some (.inl p4), some (.inl p5), some (.inl l51_6), some (.inl l51_7), some (.inl l51_8), none, none] [] (SH, dt45) (fun r w2 => ∃ dt2 : Nat → Nat → Int, w2 = (SH, dt2) ∧ InvC dt2 ∧ Fr [86, 87, 88, 89, 90, 91, 92, 93, 94, 95, 96, 97, 98, 99, 100] dt dt2 ∧ ((r = some (.inl (-1)) ∧ (¬ ((0 ≤ p1 ∧ p1 ≤ 3) ∧ (0 ≤ p2 ∧ p2 ≤ 3) ∧ (0 ≤ p3 ∧ p3 < dt 80 2) ∧ (0 ≤ p4 ∧ p4 ≤ 3) ∧ (0 ≤ p5 ∧ p5 ≤ 1)))) ∨ (∃ v : Int, r = some (.inl v) ∧ ((-1) ≤ v ∧ v ≤ 5000) ∧ ((0 ≤ p1 ∧ p1 ≤ 3) ∧ (0 ≤ p2 ∧ p2 ≤ 3) ∧ (0 ≤ p3 ∧ p3 < dt 80 2) ∧ (0 ≤ p4 ∧ p4 ≤ 3) ∧ (0 ≤ p5 ∧ p5 ≤ 1)) ∧ (v = (if p5 = 0 then (NXB (FAR (dt 80) p1 p2 p3 p4) (dt 80 1).toNat).1 else (NXB (FAR (dt 80) p1 p2 p3 p4) (dt 80 1).toNat).2))))) := by
              intro k_
              induction k_ with
              | zero => intro l51_6 l51_7 l51_8 dt45 hI46 hF47 i48 i49 i50 i51 i52 i53 hm; exact absurd hm (Nat.not_lt_zero _)
              | succ k_ ih_loop54 =>
                intro l51_6 l51_7 l51_8 dt45 hI46 hF47 i48 i49 i50 i51 i52 i53 hm
                have qb := i51
                have qf := i52
                have qH5 := hF47
                have hy := NXB_y (g := (FAR (dt 80) p1 p2 p3 p4)) (i := l51_8) (by omega)
                have hn := NXB_n (g := (FAR (dt 80) p1 p2 p3 p4)) (i := l51_8) (by omega)
                refine go_to (k := 4) (pc' := 58) (L' := [some (.inr (.inr (some 79))), some (.inl p1), some (.inl p2), some (.inl p3), some (.inl p4), some (.inl p5), some (.inl l51_6), some (.inl l51_7), some (.inl l51_8), none, none]) (st' := [.inl 1, .inr (.inr (some 80)), .inl l51_8]) (w' := (SH, dt45)) (fun _ => rfl) ?_
                refine go_smp (L' := [some (.inr (.inr (some 79))), some (.inl p1), some (.inl p2), some (.inl p3), some (.inl p4), some (.inl p5), some (.inl l51_6), some (.inl l51_7), some (.inl l51_8), none, none]) (st' := [.inl (dt 80 1), .inl l51_8]) (w' := (SH, dt45)) rfl rfl (s_ev (s_iald (n := 7460) (f := dt45 80) rfl ⟨by omega, by omega⟩) (hF47 80 (by decide) _)) ?_
                refine go_if (k := 1) (p1 := 136) (p2 := 62) (L' := [some (.inr (.inr (some 79))), some (.inl p1), some (.inl p2), some (.inl p3), some (.inl p4), some (.inl p5), some (.inl l51_6), some (.inl l51_7), some (.inl l51_8), none, none]) (st' := []) (w' := (SH, dt45)) (fun _ => rfl) (c_ge (a := l51_8) (b := dt 80 1) ⟨by omega, by omega⟩ ⟨by omega, by omega⟩) (fun c55 => ?_) (fun c55 => ?_)
                · skip
                  refine go_if (k := 2) (p1 := 146) (p2 := 141) (L' := [some (.inr (.inr (some 79))), some (.inl p1), some (.inl p2), some (.inl p3), some (.inl p4), some (.inl p5), some (.inl l51_6), some (.inl l51_7), some (.inl l51_8), none, none]) (st' := []) (w' := (SH, dt45)) (fun _ => rfl) (z_ne (a := p5) ⟨by omega, by omega⟩) (fun c56 => ?_) (fun c56 => ?_)
                  · skip
                    refine go_ret (k := 2) (r := some (.inl l51_7)) (w1 := (SH, dt45)) (fun _ => rfl) ?_
                    exact ⟨dt45, rfl, hI46, hF47, (Or.inr ⟨_, rfl, ⟨by omega, by omega⟩, ⟨by first | trivial | omega, by rw [show (dt 80 1).toNat = l51_8.toNat by omega]; first | (rw [if_pos (by omega)]; exact qb) | (rw [if_neg (by omega)]; exact qf)⟩⟩)⟩
                  · skip
                    refine go_ret (k := 3) (r := some (.inl l51_6)) (w1 := (SH, dt45)) (fun _ => rfl) ?_
                    exact ⟨dt45, rfl, hI46, hF47, (Or.inr ⟨_, rfl, ⟨by omega, by omega⟩, ⟨by first | trivial | omega, by rw [show (dt 80 1).toNat = l51_8.toNat by omega]; first | (rw [if_pos (by omega)]; exact qb) | (rw [if_neg (by omega)]; exact qf)⟩⟩)⟩
                · skip
                  refine go_to (k := 4) (pc' := 68) (L' := [some (.inr (.inr (some 79))), some (.inl p1), some (.inl p2), some (.inl p3), some (.inl p4), some (.inl p5), some (.inl l51_6), some (.inl l51_7), some (.inl l51_8), some (.inl 0), some (.inl (-1))]) (st' := []) (w' := (SH, dt45)) (fun _ => rfl) ?_
                  have loop80 : ∀ (k_ : Nat) (l68_9 : Int) (l68_10 : Int) (dt73 : Nat → Nat → Int) (hI74 : InvC dt73) (hF75 : Fr [86, 87, 88, 89, 90, 91, 92, 93, 94, 95, 96, 97, 98, 99, 100] dt dt73) (i76 : 0 ≤ l68_9 ∧ l68_9 ≤ 5000) (i77 : (-1) ≤ l68_10 ∧ l68_10 ≤ 4) (i78 : l68_9 = FRF (dt 80) p1 p2 p3 l51_8 p4 (l68_10 + 1).toNat) (i79 : l68_9 ≤ 1000 * (l68_10 + 1)), (5 - l68_10).toNat < k_ → GO (am_XX L xs sio) (d + 7) 246 68 [some (.inr (.inr (some 79))), some (.inl p1), some (.inl p2), some (.inl p3), some (.inl p4), some (.inl p5), some (.inl l51_6), some (.inl l51_7), some (.inl l51_8), some (.inl l68_9), some (.inl l68_10)] [] (SH, dt73) (fun r w2 => ∃ dt2 : Nat → Nat → Int, w2 = (SH, dt2) ∧ InvC dt2 ∧ Fr [86, 87, 88, 89, 90, 91, 92, 93, 94, 95, 96, 97, 98, 99, 100] dt dt2 ∧ ((r = some (.inl (-1)) ∧ (¬ ((0 ≤ p1 ∧ p1 ≤ 3) ∧ (0 ≤ p2 ∧ p2 ≤ 3) ∧ (0 ≤ p3 ∧ p3 < dt 80 2) ∧ (0 ≤ p4 ∧ p4 ≤ 3) ∧ (0 ≤ p5 ∧ p5 ≤ 1)))) ∨ (∃ v : Int, r = some (.inl v) ∧ ((-1) ≤ v ∧ v ≤ 5000) ∧ ((0 ≤ p1 ∧ p1 ≤ 3) ∧ (0 ≤ p2 ∧ p2 ≤ 3) ∧ (0 ≤ p3 ∧ p3 < dt 80 2) ∧ (0 ≤ p4 ∧ p4 ≤ 3) ∧ (0 ≤ p5 ∧ p5 ≤ 1)) ∧ (v = (if p5 = 0 then (NXB (FAR (dt 80) p1 p2 p3 p4) (dt 80 1).toNat).1 else (NXB (FAR (dt 80) p1 p2 p3 p4) (dt 80 1).toNat).2))))) := by
                    intro k_
                    induction k_ with
                    | zero => intro l68_9 l68_10 dt73 hI74 hF75 i76 i77 i78 i79 hm; exact absurd hm (Nat.not_lt_zero _)
                    | succ k_ ih_loop80 =>
                      intro l68_9 l68_10 dt73 hI74 hF75 i76 i77 i78 i79 hm
                      have q6 := i78
                      have qH6 := hF75
                      have qy := FRF_s (f := dt 80) (l1 := p1) (l2 := p2) (c := p3) (q := l51_8) (how := p4) (i := l68_10) (by omega)
                      have qr := DFF_R (f := dt 80) (l1 := p1) (l2 := p2) (c := p3) (q := l51_8) (how := p4) (a := l68_10)
                      refine go_if (k := 3) (p1 := 112) (p2 := 74) (L' := [some (.inr (.inr (some 79))), some (.inl p1), some (.inl p2), some (.inl p3), some (.inl p4), some (.inl p5), some (.inl l51_6), some (.inl l51_7), some (.inl l51_8), some (.inl l68_9), some (.inl l68_10)]) (st' := []) (w' := (SH, dt73)) (fun _ => rfl) (c_ge (a := l68_10) (b := 4) ⟨by omega, by omega⟩ ⟨by omega, by omega⟩) (fun c81 => ?_) (fun c81 => ?_)
                      · skip
                        refine go_if (k := 3) (p1 := 122) (p2 := 119) (L' := [some (.inr (.inr (some 79))), some (.inl p1), some (.inl p2), some (.inl p3), some (.inl p4), some (.inl p5), some (.inl l51_6), some (.inl l51_7), some (.inl l51_8), some (.inl l68_9), some (.inl l68_10)]) (st' := []) (w' := (SH, dt73)) (fun _ => rfl) (c_gt (a := l68_9) (b := l51_7) ⟨by omega, by omega⟩ ⟨by omega, by omega⟩) (fun c82 => ?_) (fun c82 => ?_)
                        · skip
                          refine go_to (k := 6) (pc' := 51) (L' := [some (.inr (.inr (some 79))), some (.inl p1), some (.inl p2), some (.inl p3), some (.inl p4), some (.inl p5), some (.inl l51_8), some (.inl l68_9), some (.inl (l51_8 + 1)), some (.inl l68_9), some (.inl l68_10)]) (st' := []) (w' := (SH, dt73)) (fun _ => rfl) ?_
                          exact GO.le (ih_loop54 l51_8 l68_9 (l51_8 + 1) dt73 hI74 hF75 (by first | omega | rfl | (have zf_ : l68_9 = FAR (dt 80) p1 p2 p3 p4 l51_8.toNat := (by unfold FAR; rw [show ((l51_8.toNat : Nat) : Int) = l51_8 by omega]; have z_ := q6; rw [show (l68_10 + 1).toNat = 5 by omega] at z_; exact z_); first | (have z_ := hy (by omega)) | (have z_ := hn (by omega))); omega) (by first | omega | rfl | (have zf_ : l68_9 = FAR (dt 80) p1 p2 p3 p4 l51_8.toNat := (by unfold FAR; rw [show ((l51_8.toNat : Nat) : Int) = l51_8 by omega]; have z_ := q6; rw [show (l68_10 + 1).toNat = 5 by omega] at z_; exact z_); first | (have z_ := hy (by omega)) | (have z_ := hn (by omega))); omega) (by first | omega | rfl | (have zf_ : l68_9 = FAR (dt 80) p1 p2 p3 p4 l51_8.toNat := (by unfold FAR; rw [show ((l51_8.toNat : Nat) : Int) = l51_8 by omega]; have z_ := q6; rw [show (l68_10 + 1).toNat = 5 by omega] at z_; exact z_); first | (have z_ := hy (by omega)) | (have z_ := hn (by omega))); omega) (by first | omega | rfl | (have zf_ : l68_9 = FAR (dt 80) p1 p2 p3 p4 l51_8.toNat := (by unfold FAR; rw [show ((l51_8.toNat : Nat) : Int) = l51_8 by omega]; have z_ := q6; rw [show (l68_10 + 1).toNat = 5 by omega] at z_; exact z_); first | (have z_ := hy (by omega)) | (have z_ := hn (by omega))); omega) (by first | omega | rfl | (have zf_ : l68_9 = FAR (dt 80) p1 p2 p3 p4 l51_8.toNat := (by unfold FAR; rw [show ((l51_8.toNat : Nat) : Int) = l51_8 by omega]; have z_ := q6; rw [show (l68_10 + 1).toNat = 5 by omega] at z_; exact z_); first | (have z_ := hy (by omega)) | (have z_ := hn (by omega))); omega) (by first | omega | rfl | (have zf_ : l68_9 = FAR (dt 80) p1 p2 p3 p4 l51_8.toNat := (by unfold FAR; rw [show ((l51_8.toNat : Nat) : Int) = l51_8 by omega]; have z_ := q6; rw [show (l68_10 + 1).toNat = 5 by omega] at z_; exact z_); first | (have z_ := hy (by omega)) | (have z_ := hn (by omega))); omega) (by omega)) ⟨.inl rfl, .inl rfl, .inl rfl, .inl rfl, .inl rfl, .inl rfl, .inl rfl, .inl rfl, .inl rfl, .inr ⟨rfl, trivial⟩, .inr ⟨rfl, trivial⟩, trivial⟩
                        · skip
                          refine go_to (k := 3) (pc' := 51) (L' := [some (.inr (.inr (some 79))), some (.inl p1), some (.inl p2), some (.inl p3), some (.inl p4), some (.inl p5), some (.inl l51_6), some (.inl l51_7), some (.inl (l51_8 + 1)), some (.inl l68_9), some (.inl l68_10)]) (st' := []) (w' := (SH, dt73)) (fun _ => rfl) ?_
                          exact GO.le (ih_loop54 l51_6 l51_7 (l51_8 + 1) dt73 hI74 hF75 (by first | omega | rfl | (have zf_ : l68_9 = FAR (dt 80) p1 p2 p3 p4 l51_8.toNat := (by unfold FAR; rw [show ((l51_8.toNat : Nat) : Int) = l51_8 by omega]; have z_ := q6; rw [show (l68_10 + 1).toNat = 5 by omega] at z_; exact z_); first | (have z_ := hy (by omega)) | (have z_ := hn (by omega))); omega) (by first | omega | rfl | (have zf_ : l68_9 = FAR (dt 80) p1 p2 p3 p4 l51_8.toNat := (by unfold FAR; rw [show ((l51_8.toNat : Nat) : Int) = l51_8 by omega]; have z_ := q6; rw [show (l68_10 + 1).toNat = 5 by omega] at z_; exact z_); first | (have z_ := hy (by omega)) | (have z_ := hn (by omega))); omega) (by first | omega | rfl | (have zf_ : l68_9 = FAR (dt 80) p1 p2 p3 p4 l51_8.toNat := (by unfold FAR; rw [show ((l51_8.toNat : Nat) : Int) = l51_8 by omega]; have z_ := q6; rw [show (l68_10 + 1).toNat = 5 by omega] at z_; exact z_); first | (have z_ := hy (by omega)) | (have z_ := hn (by omega))); omega) (by first | omega | rfl | (have zf_ : l68_9 = FAR (dt 80) p1 p2 p3 p4 l51_8.toNat := (by unfold FAR; rw [show ((l51_8.toNat : Nat) : Int) = l51_8 by omega]; have z_ := q6; rw [show (l68_10 + 1).toNat = 5 by omega] at z_; exact z_); first | (have z_ := hy (by omega)) | (have z_ := hn (by omega))); omega) (by first | omega | rfl | (have zf_ : l68_9 = FAR (dt 80) p1 p2 p3 p4 l51_8.toNat := (by unfold FAR; rw [show ((l51_8.toNat : Nat) : Int) = l51_8 by omega]; have z_ := q6; rw [show (l68_10 + 1).toNat = 5 by omega] at z_; exact z_); first | (have z_ := hy (by omega)) | (have z_ := hn (by omega))); omega) (by first | omega | rfl | (have zf_ : l68_9 = FAR (dt 80) p1 p2 p3 p4 l51_8.toNat := (by unfold FAR; rw [show ((l51_8.toNat : Nat) : Int) = l51_8 by omega]; have z_ := q6; rw [show (l68_10 + 1).toNat = 5 by omega] at z_; exact z_); first | (have z_ := hy (by omega)) | (have z_ := hn (by omega))); omega) (by omega)) ⟨.inl rfl, .inl rfl, .inl rfl, .inl rfl, .inl rfl, .inl rfl, .inl rfl, .inl rfl, .inl rfl, .inr ⟨rfl, trivial⟩, .inr ⟨rfl, trivial⟩, trivial⟩
                      · skip
                        refine go_to (k := 7) (pc' := 85) (L' := [some (.inr (.inr (some 79))), some (.inl p1), some (.inl p2), some (.inl p3), some (.inl p4), some (.inl p5), some (.inl l51_6), some (.inl l51_7), some (.inl l51_8), some (.inl l68_9), some (.inl l68_10)]) (st' := [.inl l68_10, .inl p4, .inl l51_8, .inl p3, .inl p1, .inr (.inr (some 79)), .inl l68_9]) (w' := (SH, dt73)) (fun _ => rfl) ?_
                        refine go_call (Q' := _) rfl rfl rfl rfl rfl (sp_X6_chanceOf_f L xs sio (d + 0) dt73 hI74 (MW_fr hM hF75 (by decide))  p1 ⟨by omega, by omega⟩ p3 ⟨by omega, by omega⟩ l51_8 ⟨by omega, by omega⟩ p4 ⟨by omega, by omega⟩ l68_10 ⟨by omega, by omega⟩ ) ?_
                        rintro _ _ ⟨dt84, rfl, hI85, hF86, h83⟩
                        refine ⟨rfl, ?_⟩
                        have hF87 : Fr [86, 87, 88, 89, 90, 91, 92, 93, 94, 95, 96, 97, 98, 99, 100] dt dt84 := Fr_tr hF75 hF86 (by decide)
                        rcases h83 with ⟨v_h83, rfl, h83r, h83⟩
                        have cn88 := h83
                        rw [show dt73 80 = dt 80 from funext (qH6 80 (by decide))] at cn88
                        refine go_to (k := 6) (pc' := 97) (L' := [some (.inr (.inr (some 79))), some (.inl p1), some (.inl p2), some (.inl p3), some (.inl p4), some (.inl p5), some (.inl l51_6), some (.inl l51_7), some (.inl l51_8), some (.inl l68_9), some (.inl l68_10)]) (st' := [.inl l68_10, .inl p4, .inl l51_8, .inl p3, .inl p2, .inr (.inr (some 79)), .inl v_h83, .inl l68_9]) (w' := (SH, dt84)) (fun _ => rfl) ?_
                        refine go_call (Q' := _) rfl rfl rfl rfl rfl (sp_X6_chanceOf_f L xs sio (d + 0) dt84 hI85 (MW_fr hM hF87 (by decide))  p2 ⟨by omega, by omega⟩ p3 ⟨by omega, by omega⟩ l51_8 ⟨by omega, by omega⟩ p4 ⟨by omega, by omega⟩ l68_10 ⟨by omega, by omega⟩ ) ?_
                        rintro _ _ ⟨dt90, rfl, hI91, hF92, h89⟩
                        refine ⟨rfl, ?_⟩
                        have hF93 : Fr [86, 87, 88, 89, 90, 91, 92, 93, 94, 95, 96, 97, 98, 99, 100] dt dt90 := Fr_tr hF87 hF92 (by decide)
                        rcases h89 with ⟨v_h89, rfl, h89r, h89⟩
                        have cn94 := h89
                        rw [show dt84 80 = dt 80 from funext (hF87 80 (by decide))] at cn94
                        refine go_call (Q' := _) rfl rfl rfl rfl rfl (sp_X6_apart_n L xs sio (d + 6) dt90 hI91  v_h83 ⟨by omega, by omega⟩ v_h89 ⟨by omega, by omega⟩ ) ?_
                        rintro _ _ ⟨rfl, h95⟩
                        refine ⟨rfl, ?_⟩
                        rcases h95 with ⟨v_h95, rfl, h95r, h95⟩
                        have df96 : v_h95 = DFF (dt 80) p1 p2 p3 l51_8 p4 l68_10 := by unfold DFF; rw [← cn88, ← cn94]; exact h95
                        refine go_to (k := 4) (pc' := 68) (L' := [some (.inr (.inr (some 79))), some (.inl p1), some (.inl p2), some (.inl p3), some (.inl p4), some (.inl p5), some (.inl l51_6), some (.inl l51_7), some (.inl l51_8), some (.inl (l68_9 + v_h95)), some (.inl (l68_10 + 1))]) (st' := []) (w' := (SH, dt90)) (fun _ => rfl) ?_
                        exact GO.le (ih_loop80 (l68_9 + v_h95) (l68_10 + 1) dt90 hI91 hF93 (by first | omega | rfl) (by first | omega | rfl) (by first | omega | rfl) (by first | omega | rfl) (by omega)) ⟨.inl rfl, .inl rfl, .inl rfl, .inl rfl, .inl rfl, .inl rfl, .inl rfl, .inl rfl, .inl rfl, .inl rfl, .inl rfl, trivial⟩
                  exact GO.le (loop80 _ 0 (-1) dt45 hI46 hF47 (by first | omega | rfl) (by first | omega | rfl) (by first | omega | rfl) (by first | omega | rfl) (Nat.lt_succ_self _)) ⟨.inl rfl, .inl rfl, .inl rfl, .inl rfl, .inl rfl, .inl rfl, .inl rfl, .inl rfl, .inl rfl, .inl rfl, .inl rfl, trivial⟩
            exact GO.le (loop54 _ (-1) (-1) 0 dt hI hF (by first | omega | rfl | (have zf_ : l68_9 = FAR (dt 80) p1 p2 p3 p4 l51_8.toNat := (by unfold FAR; rw [show ((l51_8.toNat : Nat) : Int) = l51_8 by omega]; have z_ := q6; rw [show (l68_10 + 1).toNat = 5 by omega] at z_; exact z_); first | (have z_ := hy (by omega)) | (have z_ := hn (by omega))); omega) (by first | omega | rfl | (have zf_ : l68_9 = FAR (dt 80) p1 p2 p3 p4 l51_8.toNat := (by unfold FAR; rw [show ((l51_8.toNat : Nat) : Int) = l51_8 by omega]; have z_ := q6; rw [show (l68_10 + 1).toNat = 5 by omega] at z_; exact z_); first | (have z_ := hy (by omega)) | (have z_ := hn (by omega))); omega) (by first | omega | rfl | (have zf_ : l68_9 = FAR (dt 80) p1 p2 p3 p4 l51_8.toNat := (by unfold FAR; rw [show ((l51_8.toNat : Nat) : Int) = l51_8 by omega]; have z_ := q6; rw [show (l68_10 + 1).toNat = 5 by omega] at z_; exact z_); first | (have z_ := hy (by omega)) | (have z_ := hn (by omega))); omega) (by first | omega | rfl | (have zf_ : l68_9 = FAR (dt 80) p1 p2 p3 p4 l51_8.toNat := (by unfold FAR; rw [show ((l51_8.toNat : Nat) : Int) = l51_8 by omega]; have z_ := q6; rw [show (l68_10 + 1).toNat = 5 by omega] at z_; exact z_); first | (have z_ := hy (by omega)) | (have z_ := hn (by omega))); omega) (by first | omega | rfl | (have zf_ : l68_9 = FAR (dt 80) p1 p2 p3 p4 l51_8.toNat := (by unfold FAR; rw [show ((l51_8.toNat : Nat) : Int) = l51_8 by omega]; have z_ := q6; rw [show (l68_10 + 1).toNat = 5 by omega] at z_; exact z_); first | (have z_ := hy (by omega)) | (have z_ := hn (by omega))); omega) (by first | omega | rfl | (have zf_ : l68_9 = FAR (dt 80) p1 p2 p3 p4 l51_8.toNat := (by unfold FAR; rw [show ((l51_8.toNat : Nat) : Int) = l51_8 by omega]; have z_ := q6; rw [show (l68_10 + 1).toNat = 5 by omega] at z_; exact z_); first | (have z_ := hy (by omega)) | (have z_ := hn (by omega))); omega) (Nat.lt_succ_self _)) ⟨.inl rfl, .inl rfl, .inl rfl, .inl rfl, .inl rfl, .inl rfl, .inl rfl, .inl rfl, .inl rfl, .inl rfl, .inl rfl, trivial⟩
          · skip
            refine go_ret (k := 3) (r := some (.inl (-1))) (w1 := (SH, dt)) (fun _ => rfl) ?_
            first | exact ⟨dt, rfl, hI, hF, (Or.inl ⟨rfl, by first | trivial | omega⟩)⟩ | exact ⟨dt, rfl, hI, hF, (Or.inr ⟨_, rfl, ⟨by omega, by omega⟩, ⟨by first | trivial | omega, by rw [show (dt 80 1).toNat = l51_8.toNat by omega]; first | (rw [if_pos (by omega)]; exact qb) | (rw [if_neg (by omega)]; exact qf)⟩⟩)⟩
        · skip
          refine go_ret (k := 3) (r := some (.inl (-1))) (w1 := (SH, dt)) (fun _ => rfl) ?_
          first | exact ⟨dt, rfl, hI, hF, (Or.inl ⟨rfl, by first | trivial | omega⟩)⟩ | exact ⟨dt, rfl, hI, hF, (Or.inr ⟨_, rfl, ⟨by omega, by omega⟩, ⟨by first | trivial | omega, by rw [show (dt 80 1).toNat = l51_8.toNat by omega]; first | (rw [if_pos (by omega)]; exact qb) | (rw [if_neg (by omega)]; exact qf)⟩⟩)⟩
      · skip
        refine go_ret (k := 3) (r := some (.inl (-1))) (w1 := (SH, dt)) (fun _ => rfl) ?_
        first | exact ⟨dt, rfl, hI, hF, (Or.inl ⟨rfl, by first | trivial | omega⟩)⟩ | exact ⟨dt, rfl, hI, hF, (Or.inr ⟨_, rfl, ⟨by omega, by omega⟩, ⟨by first | trivial | omega, by rw [show (dt 80 1).toNat = l51_8.toNat by omega]; first | (rw [if_pos (by omega)]; exact qb) | (rw [if_neg (by omega)]; exact qf)⟩⟩)⟩
    · skip
      refine go_ret (k := 3) (r := some (.inl (-1))) (w1 := (SH, dt)) (fun _ => rfl) ?_
      first | exact ⟨dt, rfl, hI, hF, (Or.inl ⟨rfl, by first | trivial | omega⟩)⟩ | exact ⟨dt, rfl, hI, hF, (Or.inr ⟨_, rfl, ⟨by omega, by omega⟩, ⟨by first | trivial | omega, by rw [show (dt 80 1).toNat = l51_8.toNat by omega]; first | (rw [if_pos (by omega)]; exact qb) | (rw [if_neg (by omega)]; exact qf)⟩⟩)⟩
  · skip
    refine go_ret (k := 3) (r := some (.inl (-1))) (w1 := (SH, dt)) (fun _ => rfl) ?_
    first | exact ⟨dt, rfl, hI, hF, (Or.inl ⟨rfl, by first | trivial | omega⟩)⟩ | exact ⟨dt, rfl, hI, hF, (Or.inr ⟨_, rfl, ⟨by omega, by omega⟩, ⟨by first | trivial | omega, by rw [show (dt 80 1).toNat = l51_8.toNat by omega]; first | (rw [if_pos (by omega)]; exact qb) | (rw [if_neg (by omega)]; exact qf)⟩⟩)⟩
theorem chk_sp_X3_ruleOf_f (L : Nat) (xs : Nat → Int32) (sio : Option Nat) (d : Nat) (dt : Nat → Nat → Int) (hI : InvC dt) (F : Nat → Int) (fa : Nat → Int) (l : Int) (p1 : Int) (h_p1 : 0 ≤ p1 ∧ p1 ≤ 791) (h_p0 : WGT (dt 72) (dt 71 1) F fa l) (h_p1 : p1 < WS F fa l 8) : GO (am_XX L xs sio) (d) 46 0 [some (.inr (.inr (some 71))), some (.inl p1), none, none] [] (SH, dt) (fun r w2 => w2 = (SH, dt) ∧ ((∃ v : Int, r = some (.inl v) ∧ (0 ≤ v ∧ v ≤ 7) ∧ (v = RLF F fa l p1 8)))) := by
  refine go_to (k := 4) (pc' := 4) (L' := [some (.inr (.inr (some 71))), some (.inl p1), some (.inl 0), some (.inl 0)]) (st' := []) (w' := (SH, dt)) (fun _ => rfl) ?_
  have loop10 : ∀ (k_ : Nat) (l4_2 : Int) (l4_3 : Int) (i5 : 0 ≤ l4_2 ∧ l4_2 ≤ 792) (i6 : 0 ≤ l4_3 ∧ l4_3 ≤ 8) (i7 : l4_2 = WS F fa l l4_3.toNat) (i8 : l4_2 ≤ p1) (i9 : l4_2 ≤ 99 * l4_3), (9 - l4_3).toNat < k_ → GO (am_XX L xs sio) (d) 46 4 [some (.inr (.inr (some 71))), some (.inl p1), some (.inl l4_2), some (.inl l4_3)] [] (SH, dt) (fun r w2 => w2 = (SH, dt) ∧ ((∃ v : Int, r = some (.inl v) ∧ (0 ≤ v ∧ v ≤ 7) ∧ (v = RLF F fa l p1 8)))) := by
    intro k_
    induction k_ with
    | zero => intro l4_2 l4_3 i5 i6 i7 i8 i9 hm; exact absurd hm (Nat.not_lt_zero _)
    | succ k_ ih_loop10 =>
      intro l4_2 l4_3 i5 i6 i7 i8 i9 hm
      have qS := i7
      have h8_ : ¬ l4_3 = 8 := fun z_ => by have y_ := qS; rw [z_, show (8 : Int).toNat = 8 from rfl] at y_; omega
      have hW_ : l4_3 < 8 → dt 72 l4_3.toNat = WH F fa l l4_3 := fun z_ => (h_p0.1 l4_3.toNat (by omega)).trans (by rw [show ((l4_3.toNat : Nat) : Int) = l4_3 by omega])
      have hR_ : l4_3 < 8 → _ := fun (z_ : l4_3 < 8) => WH_R7 (f := F) (fa := fa) (l := l) (r := l4_3) (by omega)
      have hs_ := WS_s (f := F) (fa := fa) (l := l) (r := l4_3) (by omega)
      refine go_if (k := 3) (p1 := 32) (p2 := 10) (L' := [some (.inr (.inr (some 71))), some (.inl p1), some (.inl l4_2), some (.inl l4_3)]) (st' := []) (w' := (SH, dt)) (fun _ => rfl) (c_ge (a := l4_3) (b := 8) ⟨by omega, by omega⟩ ⟨by omega, by omega⟩) (fun c11 => ?_) (fun c11 => ?_)
      · skip
        exfalso; omega
      · skip
        refine go_to (k := 4) (pc' := 16) (L' := [some (.inr (.inr (some 71))), some (.inl p1), some (.inl l4_2), some (.inl l4_3)]) (st' := [.inl l4_3, .inr (.inr (some 72)), .inl l4_2]) (w' := (SH, dt)) (fun _ => rfl) ?_
        have r12 : 0 ≤ dt 72 (l4_3).toNat ∧ dt 72 (l4_3).toNat ≤ 100 := InvC_get hI 72 (l4_3).toNat rfl rfl
        refine go_smp (L' := [some (.inr (.inr (some 71))), some (.inl p1), some (.inl l4_2), some (.inl l4_3)]) (st' := [.inl (dt 72 (l4_3).toNat), .inl l4_2]) (w' := (SH, dt)) rfl rfl (s_iald (n := 9) (f := dt 72) rfl ⟨by omega, by omega⟩) ?_
        refine go_if (k := 5) (p1 := 26) (p2 := 24) (L' := [some (.inr (.inr (some 71))), some (.inl p1), some (.inl (l4_2 + (dt 72 (l4_3).toNat))), some (.inl l4_3)]) (st' := []) (w' := (SH, dt)) (fun _ => rfl) (c_le (a := l4_2 + (dt 72 (l4_3).toNat)) (b := p1) ⟨by omega, by omega⟩ ⟨by omega, by omega⟩) (fun c13 => ?_) (fun c13 => ?_)
        · skip
          refine go_to (k := 2) (pc' := 4) (L' := [some (.inr (.inr (some 71))), some (.inl p1), some (.inl (l4_2 + (dt 72 (l4_3).toNat))), some (.inl (l4_3 + 1))]) (st' := []) (w' := (SH, dt)) (fun _ => rfl) ?_
          exact GO.le (ih_loop10 (l4_2 + (dt 72 (l4_3).toNat)) (l4_3 + 1) (by first | omega | rfl) (by first | omega | rfl) (by first | omega | rfl) (by first | omega | rfl) (by first | omega | rfl) (by omega)) ⟨.inl rfl, .inl rfl, .inl rfl, .inl rfl, trivial⟩
        · skip
          refine go_ret (k := 2) (r := some (.inl l4_3)) (w1 := (SH, dt)) (fun _ => rfl) ?_
          exact ⟨rfl, ⟨_, rfl, ⟨by omega, by omega⟩, by exact RLF_u ⟨by omega, by omega⟩ (by omega) (by omega)⟩⟩
  exact GO.le (loop10 _ 0 0 (by first | omega | rfl) (by first | omega | rfl) (by first | omega | rfl) (by first | omega | rfl) (by first | omega | rfl) (Nat.lt_succ_self _)) ⟨.inl rfl, .inl rfl, .inl rfl, .inl rfl, trivial⟩
theorem chk_sp_X5_ask_f (L : Nat) (xs : Nat → Int32) (sio : Option Nat) (d : Nat) (dt : Nat → Nat → Int) (hI : InvC dt) (F : Nat → Int) (hMF : MW F) (p1 : Int) (h_p1 : (-2147483648) ≤ p1 ∧ p1 ≤ 2147483647) (p2 : Int) (h_p2 : (-2147483648) ≤ p2 ∧ p2 ≤ 2147483647) (p3 : Int) (h_p3 : (-2147483648) ≤ p3 ∧ p3 ≤ 2147483647) (h_p0 : ALK dt F) : GO (am_XX L xs sio) (d + 5) 79 0 [some (.inr (.inr (some 0))), some (.inl p1), some (.inl p2), some (.inl p3), none, none, none] [] (SH, dt) (fun r w2 => ∃ dt2 : Nat → Nat → Int, w2 = (SH, dt2) ∧ InvC dt2 ∧ Fr [1, 12, 13, 71, 72, 73, 74] dt dt2 ∧ ((r = some (.inl (-2)) ∧ (¬ ((0 ≤ p1 ∧ p1 < dt 10 3) ∧ (0 ≤ p2 ∧ p2 < dt 7 3) ∧ (0 ≤ p3 ∧ p3 ≤ 3) ∧ dt 12 3 < 300)) ∧ (dt2 1 0 = dt 1 0) ∧ (dt2 12 3 = dt 12 3)) ∨ (∃ v : Int, r = some (.inl v) ∧ ((-2147483648) ≤ v ∧ v ≤ 2147483647) ∧ ((0 ≤ p1 ∧ p1 < dt 10 3) ∧ (0 ≤ p2 ∧ p2 < dt 7 3) ∧ (0 ≤ p3 ∧ p3 ≤ 3) ∧ dt 12 3 < 300) ∧ (dt2 1 0 = DRW (DRW (dt 1 0))) ∧ (dt2 12 3 = dt 12 3 + 1) ∧ (v = AKB F (FQ F p1 p2 p3) (F (5380 + 4 * p1.toNat)) p2.toNat (dt 1 0))))) := by
  have hF : Fr [1, 12, 13, 71, 72, 73, 74] dt dt := Fr_refl
  have r1 : 0 ≤ dt 7 3 ∧ dt 7 3 ≤ 12 := InvC_get hI 7 3 rfl rfl
  have r2 : 0 ≤ dt 10 3 ∧ dt 10 3 ≤ 40 := InvC_get hI 10 3 rfl rfl
  have r3 : 0 ≤ dt 12 3 ∧ dt 12 3 ≤ 300 := InvC_get hI 12 3 rfl rfl
  refine go_to (k := 4) (pc' := 4) (L' := [some (.inr (.inr (some 0))), some (.inl p1), some (.inl p2), some (.inl p3), none, none, none]) (st' := [.inl p3, .inl p2, .inl p1, .inr (.inr (some 0))]) (w' := (SH, dt)) (fun _ => rfl) ?_
  refine go_call (Q' := _) rfl rfl rfl rfl rfl (sp_X5_canAsk L xs sio (d + 3) dt hI  p1 ⟨by omega, by omega⟩ p2 ⟨by omega, by omega⟩ p3 ⟨by omega, by omega⟩ ) ?_
  rintro _ _ ⟨rfl, h4⟩
  refine ⟨rfl, ?_⟩
  rcases h4 with ⟨rfl, h4⟩ | ⟨rfl, h4⟩
  · skip
    obtain ⟨h4_0, h4_1, h4_2⟩ := h4
    have ec_ := ALK_c h_p0 (c := p1) (by omega)
    have el_ := ALK_l h_p0 hMF (c := p1) (by omega)
    refine go_to (k := 4) (pc' := 17) (L' := [some (.inr (.inr (some 0))), some (.inl p1), some (.inl p2), some (.inl p3), none, none, none]) (st' := [.inr (.inr (some 12))]) (w' := (SH, dt)) (fun _ => rfl) ?_
    refine go_call (Q' := _) rfl rfl rfl rfl rfl (sp_X2_isFull_12 L xs sio (d + 4) dt hI   ) ?_
    rintro _ _ ⟨rfl, h5⟩
    refine ⟨rfl, ?_⟩
    rcases h5 with ⟨rfl, h5⟩ | ⟨rfl, h5⟩
    · skip
      refine go_ret (k := 3) (r := some (.inl (-2))) (w1 := (SH, dt)) (fun _ => rfl) ?_
      first | exact ⟨dt, rfl, hI, hF, (Or.inl ⟨rfl, ⟨by first | trivial | omega, by first | trivial | omega, by first | trivial | omega⟩⟩)⟩ | exact ⟨dt, rfl, hI, hF, (Or.inr ⟨_, rfl, ⟨by omega, by omega⟩, ⟨by first | trivial | omega, by exact hI, by first | trivial | omega, by unfold AKB; rw [← ec_.1]; first | (rw [if_pos (by omega)]; exact hI) | (rw [if_neg (by omega), if_pos (by omega)]; exact hI) | (rw [if_neg (by omega), if_neg (by omega), ← hA_, ← hI, ← hI]; exact hI)⟩⟩)⟩
    · skip
      refine go_to (k := 4) (pc' := 29) (L' := [some (.inr (.inr (some 0))), some (.inl p1), some (.inl p2), some (.inl p3), none, none, none]) (st' := [.inl p1, .inr (.inr (some 0)), .inr (.inr (some 0))]) (w' := (SH, dt)) (fun _ => rfl) ?_
      refine go_call (Q' := _) rfl rfl rfl rfl rfl (sp_X5_lawOf_f L xs sio (d + 2) dt hI  p1 ⟨by omega, by omega⟩ (by first | trivial | omega | exact hI | exact ALK_fr h_p0 hF (fun k a b z_ => by simp at z_; omega) | (rw [show dt 9 = dt 9 from funext (hF 9 (by decide))]; exact h_p0.2.2.1) | (rw [show dt 7 3 = dt 7 3 from hF 7 (by decide) 3]; first | omega | exact h_p0.2.2.2.2.1) | (rw [show dt 10 3 = dt 10 3 from hF 10 (by decide) 3]; omega)) (by first | trivial | omega | exact hI | exact ALK_fr h_p0 hF (fun k a b z_ => by simp at z_; omega) | (rw [show dt 9 = dt 9 from funext (hF 9 (by decide))]; exact h_p0.2.2.1) | (rw [show dt 7 3 = dt 7 3 from hF 7 (by decide) 3]; first | omega | exact h_p0.2.2.2.2.1) | (rw [show dt 10 3 = dt 10 3 from hF 10 (by decide) 3]; omega))) ?_
      rintro _ _ ⟨rfl, h6⟩
      refine ⟨rfl, ?_⟩
      rcases h6 with ⟨rfl, h6⟩
      refine go_to (k := 3) (pc' := 35) (L' := [some (.inr (.inr (some 0))), some (.inl p1), some (.inl p2), some (.inl p3), none, none, none]) (st' := [.inl p3, .inl p2, .inl p1, .inl (dt 11 (((p1 * 4) + 0)).toNat), .inr (.inr (some 0))]) (w' := (SH, dt)) (fun _ => rfl) ?_
      refine go_call (Q' := _) rfl rfl rfl rfl rfl (sp_X5_weigh_f L xs sio (d + 0) dt hI F hMF (dt 11 (((p1 * 4) + 0)).toNat) ⟨by omega, by omega⟩ p1 ⟨by omega, by omega⟩ p2 ⟨by omega, by omega⟩ p3 ⟨by omega, by omega⟩ (by first | trivial | omega | exact hI | exact ALK_fr h_p0 hF (fun k a b z_ => by simp at z_; omega) | (rw [show dt 9 = dt 9 from funext (hF 9 (by decide))]; exact h_p0.2.2.1) | (rw [show dt 7 3 = dt 7 3 from hF 7 (by decide) 3]; first | omega | exact h_p0.2.2.2.2.1) | (rw [show dt 10 3 = dt 10 3 from hF 10 (by decide) 3]; omega)) (by first | trivial | omega | exact hI | exact ALK_fr h_p0 hF (fun k a b z_ => by simp at z_; omega) | (rw [show dt 9 = dt 9 from funext (hF 9 (by decide))]; exact h_p0.2.2.1) | (rw [show dt 7 3 = dt 7 3 from hF 7 (by decide) 3]; first | omega | exact h_p0.2.2.2.2.1) | (rw [show dt 10 3 = dt 10 3 from hF 10 (by decide) 3]; omega)) (by first | trivial | omega | exact hI | exact ALK_fr h_p0 hF (fun k a b z_ => by simp at z_; omega) | (rw [show dt 9 = dt 9 from funext (hF 9 (by decide))]; exact h_p0.2.2.1) | (rw [show dt 7 3 = dt 7 3 from hF 7 (by decide) 3]; first | omega | exact h_p0.2.2.2.2.1) | (rw [show dt 10 3 = dt 10 3 from hF 10 (by decide) 3]; omega))) ?_
      rintro _ _ ⟨dt8, rfl, hI9, hF10, h7⟩
      refine ⟨rfl, ?_⟩
      have hF11 : Fr [1, 12, 13, 71, 72, 73, 74] dt dt8 := Fr_tr hF hF10 (by decide)
      have w12 : dt8 1 0 = dt 1 0 := hF10 1 (by decide) 0
      have w13 : dt8 12 3 = dt 12 3 := hF10 12 (by decide) 3
      rcases h7 with ⟨rfl, h7⟩
      have wg14 : WGT (dt8 72) (dt8 71 1) F (FQ F p1 p2 p3) (dt 11 (((p1 * 4) + 0)).toNat) := h7
      have hA_ := wg14.2.2
      have hP_ := wg14.2.1
      have bW_ := WS_R8 (f := F) (fa := (FQ F p1 p2 p3)) (l := (dt 11 (((p1 * 4) + 0)).toNat)) 8 (by decide)
      have st15 : dt8 1 0 = dt 1 0 := hF11 1 (by decide) 0
      have r16 : 0 ≤ dt8 71 1 ∧ dt8 71 1 ≤ 792 := InvC_get hI9 71 1 rfl rfl
      refine go_if (k := 6) (p1 := 61) (p2 := 51) (L' := [some (.inr (.inr (some 0))), some (.inl p1), some (.inl p2), some (.inl p3), some (.inl (-1)), none, none]) (st' := []) (w' := (SH, dt8)) (fun _ => rfl) (z_ne (a := dt8 71 1) ⟨by omega, by omega⟩) (fun c17 => ?_) (fun c17 => ?_)
      · skip
        refine go_to (k := 6) (pc' := 73) (L' := [some (.inr (.inr (some 0))), some (.inl p1), some (.inl p2), some (.inl p3), some (.inl (-1)), none, none]) (st' := [.inl (dt8 71 1), .inr (.inr (some 0)), .inr (.inr (some 71))]) (w' := (SH, dt8)) (fun _ => rfl) ?_
        refine go_call (Q' := _) rfl rfl rfl rfl rfl (sp_X5_draw_f L xs sio (d + 4) dt8 hI9  (dt8 71 1) ⟨by omega, by omega⟩ ) ?_
        rintro _ _ ⟨dt19, rfl, hI20, hF21, h18⟩
        refine ⟨rfl, ?_⟩
        have hF22 : Fr [1, 12, 13, 71, 72, 73, 74] dt dt19 := Fr_tr hF11 hF21 (by decide)
        have w23 : dt19 12 3 = dt8 12 3 := hF21 12 (by decide) 3
        rcases h18 with ⟨v_h18, rfl, h18r, h18⟩
        obtain ⟨h18_0, h18_1, h18_2⟩ := h18
        have dv24 : v_h18 = DVW (DRW (dt 1 0)) (dt8 71 1) := by have z_ := h18_2; rw [st15] at z_; exact z_
        have st25 : dt19 1 0 = DRW (dt 1 0) := by rw [h18_1, st15]
        have wg26 : WGT (dt19 72) (dt19 71 1) F (FQ F p1 p2 p3) (dt 11 (((p1 * 4) + 0)).toNat) := by rw [show dt19 72 = dt8 72 from funext (hF21 72 (by decide)), hF21 71 (by decide) 1]; exact wg14
        have hA27 := wg26.2.2
        have hP28 := wg26.2.1
        refine go_call (Q' := _) rfl rfl rfl rfl rfl (sp_X3_ruleOf_f L xs sio (d + 4) dt19 hI20 F (FQ F p1 p2 p3) (dt 11 (((p1 * 4) + 0)).toNat) v_h18 ⟨by omega, by omega⟩ (by first | trivial | omega | exact wg26 | exact ALK_fr h_p0 hF22 (fun k a b z_ => by simp at z_; omega) | (rw [show dt19 9 = dt 9 from funext (hF22 9 (by decide))]; exact h_p0.2.2.1) | (rw [show dt19 7 3 = dt 7 3 from hF22 7 (by decide) 3]; first | omega | exact h_p0.2.2.2.2.1) | (rw [show dt19 10 3 = dt 10 3 from hF22 10 (by decide) 3]; omega)) (by first | trivial | omega | exact wg26 | exact ALK_fr h_p0 hF22 (fun k a b z_ => by simp at z_; omega) | (rw [show dt19 9 = dt 9 from funext (hF22 9 (by decide))]; exact h_p0.2.2.1) | (rw [show dt19 7 3 = dt 7 3 from hF22 7 (by decide) 3]; first | omega | exact h_p0.2.2.2.2.1) | (rw [show dt19 10 3 = dt 10 3 from hF22 10 (by decide) 3]; omega))) ?_
        rintro _ _ ⟨rfl, h29⟩
        refine ⟨rfl, ?_⟩
        rcases h29 with ⟨v_h29, rfl, h29r, h29⟩
        refine go_to (k := 5) (pc' := 88) (L' := [some (.inr (.inr (some 0))), some (.inl p1), some (.inl p2), some (.inl p3), some (.inl v_h29), none, none]) (st' := [.inl v_h29, .inl p2, .inr (.inr (some 1))]) (w' := (SH, dt19)) (fun _ => rfl) ?_
        refine go_call (Q' := _) rfl rfl rfl rfl rfl (sp_X0_saidOf_f L xs sio (d + 3) dt19 hI20  p2 ⟨by omega, by omega⟩ v_h29 ⟨by omega, by omega⟩ (by first | trivial | omega | exact wg26 | exact ALK_fr h_p0 hF22 (fun k a b z_ => by simp at z_; omega) | (rw [show dt19 9 = dt 9 from funext (hF22 9 (by decide))]; exact h_p0.2.2.1) | (rw [show dt19 7 3 = dt 7 3 from hF22 7 (by decide) 3]; first | omega | exact h_p0.2.2.2.2.1) | (rw [show dt19 10 3 = dt 10 3 from hF22 10 (by decide) 3]; omega))) ?_
        rintro _ _ ⟨rfl, h30⟩
        refine ⟨rfl, ?_⟩
        rcases h30 with ⟨rfl, h30⟩
        have sd31 : dt19 9 (((p2 * 11) + v_h29)).toNat = SAID F p2.toNat v_h29 := by rw [hF22 9 (by decide)]; have z_ := h_p0.2.2.1 p2.toNat (by omega) (v_h29).toNat (by omega); rw [show 11 * p2.toNat + (v_h29).toNat = (((p2 * 11) + v_h29)).toNat by omega, show (((v_h29).toNat : Nat) : Int) = v_h29 by omega] at z_; exact z_
        refine go_to (k := 3) (pc' := 96) (L' := [some (.inr (.inr (some 0))), some (.inl p1), some (.inl p2), some (.inl p3), some (.inl v_h29), some (.inl (dt19 9 (((p2 * 11) + v_h29)).toNat)), none]) (st' := [.inl 100, .inr (.inr (some 0))]) (w' := (SH, dt19)) (fun _ => rfl) ?_
        refine go_call (Q' := _) rfl rfl rfl rfl rfl (sp_X5_draw_f L xs sio (d + 4) dt19 hI20  100 ⟨by omega, by omega⟩ ) ?_
        rintro _ _ ⟨dt33, rfl, hI34, hF35, h32⟩
        refine ⟨rfl, ?_⟩
        have hF36 : Fr [1, 12, 13, 71, 72, 73, 74] dt dt33 := Fr_tr hF22 hF35 (by decide)
        have w37 : dt33 12 3 = dt19 12 3 := hF35 12 (by decide) 3
        rcases h32 with ⟨v_h32, rfl, h32r, h32⟩
        obtain ⟨h32_0, h32_1, h32_2⟩ := h32
        have dv38 : v_h32 = DVW (DRW (DRW (dt 1 0))) 100 := by have z_ := h32_2; rw [st25] at z_; exact z_
        have st39 : dt33 1 0 = DRW (DRW (dt 1 0)) := by rw [h32_1, st25]
        have wg40 : WGT (dt33 72) (dt33 71 1) F (FQ F p1 p2 p3) (dt 11 (((p1 * 4) + 0)).toNat) := by rw [show dt33 72 = dt19 72 from funext (hF35 72 (by decide)), hF35 71 (by decide) 1]; exact wg26
        have hA41 := wg40.2.2
        have hP42 := wg40.2.1
        refine go_to (k := 4) (pc' := 108) (L' := [some (.inr (.inr (some 0))), some (.inl p1), some (.inl p2), some (.inl p3), some (.inl v_h29), some (.inl (dt19 9 (((p2 * 11) + v_h29)).toNat)), none]) (st' := [.inl 8, .inr (.inr (some 72)), .inl v_h32]) (w' := (SH, dt33)) (fun _ => rfl) ?_
        have r43 : 0 ≤ dt33 72 8 ∧ dt33 72 8 ≤ 100 := InvC_get hI34 72 8 rfl rfl
        refine go_smp (L' := [some (.inr (.inr (some 0))), some (.inl p1), some (.inl p2), some (.inl p3), some (.inl v_h29), some (.inl (dt19 9 (((p2 * 11) + v_h29)).toNat)), none]) (st' := [.inl (dt33 72 8), .inl v_h32]) (w' := (SH, dt33)) rfl rfl (s_iald (n := 9) (f := dt33 72) rfl ⟨by omega, by omega⟩) ?_
        refine go_if (k := 1) (p1 := 116) (p2 := 112) (L' := [some (.inr (.inr (some 0))), some (.inl p1), some (.inl p2), some (.inl p3), some (.inl v_h29), some (.inl (dt19 9 (((p2 * 11) + v_h29)).toNat)), none]) (st' := []) (w' := (SH, dt33)) (fun _ => rfl) (c_ge (a := v_h32) (b := dt33 72 8) ⟨by omega, by omega⟩ ⟨by omega, by omega⟩) (fun c44 => ?_) (fun c44 => ?_)
        · skip
          refine go_to (k := 15) (pc' := 159) (L' := [some (.inr (.inr (some 0))), some (.inl p1), some (.inl p2), some (.inl p3), some (.inl v_h29), some (.inl (dt19 9 (((p2 * 11) + v_h29)).toNat)), some (.inl 0)]) (st' := [.inl 0, .inl v_h29, .inl (dt19 9 (((p2 * 11) + v_h29)).toNat), .inl p3, .inl p2, .inl p1, .inr (.inr (some 12))]) (w' := (SH, dt33)) (fun _ => rfl) ?_
          have r45 : 0 ≤ dt33 12 3 ∧ dt33 12 3 ≤ 300 := InvC_get hI34 12 3 rfl rfl
          refine go_call (Q' := _) rfl rfl rfl rfl rfl (sp_X2_add_12 L xs sio (d + 3) dt33 hI34  p1 ⟨by omega, by omega⟩ p2 ⟨by omega, by omega⟩ p3 ⟨by omega, by omega⟩ (dt19 9 (((p2 * 11) + v_h29)).toNat) ⟨by omega, by omega⟩ v_h29 ⟨by omega, by omega⟩ 0 ⟨by omega, by omega⟩ ) ?_
          rintro _ _ ⟨dt47, rfl, hI48, hF49, h46⟩
          refine ⟨rfl, ?_⟩
          have hF50 : Fr [1, 12, 13, 71, 72, 73, 74] dt dt47 := Fr_tr hF36 hF49 (by decide)
          have w51 : dt47 1 0 = dt33 1 0 := hF49 1 (by decide) 0
          rcases h46 with ⟨rfl, h46⟩ | ⟨v_h46, rfl, h46r, h46⟩
          · skip
            obtain ⟨h46_0, h46_1⟩ := h46
            have st52 : dt47 1 0 = (DRW (DRW (dt 1 0))) := (hF49 1 (by decide) 0).trans st39
            have wg53 : WGT (dt47 72) (dt47 71 1) F (FQ F p1 p2 p3) (dt 11 (((p1 * 4) + 0)).toNat) := by rw [show dt47 72 = dt33 72 from funext (hF49 72 (by decide)), hF49 71 (by decide) 1]; exact wg40
            have hA54 := wg53.2.2
            have hP55 := wg53.2.1
            refine go_ret (k := 3) (r := some (.inl (dt19 9 (((p2 * 11) + v_h29)).toNat))) (w1 := (SH, dt47)) (fun _ => rfl) ?_
            exact ⟨dt47, rfl, hI48, hF50, (Or.inr ⟨_, rfl, ⟨by omega, by omega⟩, ⟨by first | trivial | omega, by exact st52, by first | trivial | omega, by unfold AKB; rw [← ec_.1]; first | (rw [if_pos (by omega)]; exact hI) | (rw [if_neg (by omega), if_pos (by omega)]; exact dv24) | (rw [if_neg (by omega), if_neg (by omega), ← hA_, ← dv24, ← h29]; exact sd31)⟩⟩)⟩
          · skip
            obtain ⟨h46_0, h46_1, h46_2⟩ := h46
            have st56 : dt47 1 0 = (DRW (DRW (dt 1 0))) := (hF49 1 (by decide) 0).trans st39
            have wg57 : WGT (dt47 72) (dt47 71 1) F (FQ F p1 p2 p3) (dt 11 (((p1 * 4) + 0)).toNat) := by rw [show dt47 72 = dt33 72 from funext (hF49 72 (by decide)), hF49 71 (by decide) 1]; exact wg40
            have hA58 := wg57.2.2
            have hP59 := wg57.2.1
            refine go_ret (k := 3) (r := some (.inl (dt19 9 (((p2 * 11) + v_h29)).toNat))) (w1 := (SH, dt47)) (fun _ => rfl) ?_
            exact ⟨dt47, rfl, hI48, hF50, (Or.inr ⟨_, rfl, ⟨by omega, by omega⟩, ⟨by first | trivial | omega, by exact st56, by first | trivial | omega, by unfold AKB; rw [← ec_.1]; first | (rw [if_pos (by omega)]; exact hI) | (rw [if_neg (by omega), if_pos (by omega)]; exact dv24) | (rw [if_neg (by omega), if_neg (by omega), ← hA_, ← dv24, ← h29]; exact sd31)⟩⟩)⟩
        · skip
          refine go_to (k := 9) (pc' := 130) (L' := [some (.inr (.inr (some 0))), some (.inl p1), some (.inl p2), some (.inl p3), some (.inl v_h29), some (.inl (dt19 9 (((p2 * 11) + v_h29)).toNat)), some (.inl 1)]) (st' := [.inl 0, .inl p2, .inr (.inr (some 1))]) (w' := (SH, dt33)) (fun _ => rfl) ?_
          refine go_call (Q' := _) rfl rfl rfl rfl rfl (sp_X0_saidOf_f L xs sio (d + 3) dt33 hI34  p2 ⟨by omega, by omega⟩ 0 ⟨by omega, by omega⟩ (by first | trivial | omega | exact wg40 | exact ALK_fr h_p0 hF36 (fun k a b z_ => by simp at z_; omega) | (rw [show dt33 9 = dt 9 from funext (hF36 9 (by decide))]; exact h_p0.2.2.1) | (rw [show dt33 7 3 = dt 7 3 from hF36 7 (by decide) 3]; first | omega | exact h_p0.2.2.2.2.1) | (rw [show dt33 10 3 = dt 10 3 from hF36 10 (by decide) 3]; omega))) ?_
          rintro _ _ ⟨rfl, h60⟩
          refine ⟨rfl, ?_⟩
          rcases h60 with ⟨rfl, h60⟩
          have sd61 : dt33 9 (((p2 * 11) + 0)).toNat = SAID F p2.toNat 0 := by rw [hF36 9 (by decide)]; have z_ := h_p0.2.2.1 p2.toNat (by omega) (0).toNat (by omega); rw [show 11 * p2.toNat + (0).toNat = (((p2 * 11) + 0)).toNat by omega, show (((0).toNat : Nat) : Int) = 0 by omega] at z_; exact z_
          refine go_to (k := 13) (pc' := 159) (L' := [some (.inr (.inr (some 0))), some (.inl p1), some (.inl p2), some (.inl p3), some (.inl v_h29), some (.inl (dt33 9 (((p2 * 11) + 0)).toNat)), some (.inl 1)]) (st' := [.inl 1, .inl v_h29, .inl (dt33 9 (((p2 * 11) + 0)).toNat), .inl p3, .inl p2, .inl p1, .inr (.inr (some 12))]) (w' := (SH, dt33)) (fun _ => rfl) ?_
          have r62 : 0 ≤ dt33 12 3 ∧ dt33 12 3 ≤ 300 := InvC_get hI34 12 3 rfl rfl
          refine go_call (Q' := _) rfl rfl rfl rfl rfl (sp_X2_add_12 L xs sio (d + 3) dt33 hI34  p1 ⟨by omega, by omega⟩ p2 ⟨by omega, by omega⟩ p3 ⟨by omega, by omega⟩ (dt33 9 (((p2 * 11) + 0)).toNat) ⟨by omega, by omega⟩ v_h29 ⟨by omega, by omega⟩ 1 ⟨by omega, by omega⟩ ) ?_
          rintro _ _ ⟨dt64, rfl, hI65, hF66, h63⟩
          refine ⟨rfl, ?_⟩
          have hF67 : Fr [1, 12, 13, 71, 72, 73, 74] dt dt64 := Fr_tr hF36 hF66 (by decide)
          have w68 : dt64 1 0 = dt33 1 0 := hF66 1 (by decide) 0
          rcases h63 with ⟨rfl, h63⟩ | ⟨v_h63, rfl, h63r, h63⟩
          · skip
            obtain ⟨h63_0, h63_1⟩ := h63
            have st69 : dt64 1 0 = (DRW (DRW (dt 1 0))) := (hF66 1 (by decide) 0).trans st39
            have wg70 : WGT (dt64 72) (dt64 71 1) F (FQ F p1 p2 p3) (dt 11 (((p1 * 4) + 0)).toNat) := by rw [show dt64 72 = dt33 72 from funext (hF66 72 (by decide)), hF66 71 (by decide) 1]; exact wg40
            have hA71 := wg70.2.2
            have hP72 := wg70.2.1
            refine go_ret (k := 3) (r := some (.inl (dt33 9 (((p2 * 11) + 0)).toNat))) (w1 := (SH, dt64)) (fun _ => rfl) ?_
            exact ⟨dt64, rfl, hI65, hF67, (Or.inr ⟨_, rfl, ⟨by omega, by omega⟩, ⟨by first | trivial | omega, by exact st69, by first | trivial | omega, by unfold AKB; rw [← ec_.1]; first | (rw [if_pos (by omega)]; exact sd61) | (rw [if_neg (by omega), if_pos (by omega)]; exact dv24) | (rw [if_neg (by omega), if_neg (by omega), ← hA_, ← dv24, ← h29]; exact sd31)⟩⟩)⟩
          · skip
            obtain ⟨h63_0, h63_1, h63_2⟩ := h63
            have st73 : dt64 1 0 = (DRW (DRW (dt 1 0))) := (hF66 1 (by decide) 0).trans st39
            have wg74 : WGT (dt64 72) (dt64 71 1) F (FQ F p1 p2 p3) (dt 11 (((p1 * 4) + 0)).toNat) := by rw [show dt64 72 = dt33 72 from funext (hF66 72 (by decide)), hF66 71 (by decide) 1]; exact wg40
            have hA75 := wg74.2.2
            have hP76 := wg74.2.1
            refine go_ret (k := 3) (r := some (.inl (dt33 9 (((p2 * 11) + 0)).toNat))) (w1 := (SH, dt64)) (fun _ => rfl) ?_
            exact ⟨dt64, rfl, hI65, hF67, (Or.inr ⟨_, rfl, ⟨by omega, by omega⟩, ⟨by first | trivial | omega, by exact st73, by first | trivial | omega, by unfold AKB; rw [← ec_.1]; first | (rw [if_pos (by omega)]; exact sd61) | (rw [if_neg (by omega), if_pos (by omega)]; exact dv24) | (rw [if_neg (by omega), if_neg (by omega), ← hA_, ← dv24, ← h29]; exact sd31)⟩⟩)⟩
      · skip
        refine go_to (k := 2) (pc' := 53) (L' := [some (.inr (.inr (some 0))), some (.inl p1), some (.inl p2), some (.inl p3), some (.inl (-1)), none, none]) (st' := [.inl 4, .inr (.inr (some 0))]) (w' := (SH, dt8)) (fun _ => rfl) ?_
        refine go_call (Q' := _) rfl rfl rfl rfl rfl (sp_X5_draw_f L xs sio (d + 4) dt8 hI9  4 ⟨by omega, by omega⟩ ) ?_
        rintro _ _ ⟨dt78, rfl, hI79, hF80, h77⟩
        refine ⟨rfl, ?_⟩
        have hF81 : Fr [1, 12, 13, 71, 72, 73, 74] dt dt78 := Fr_tr hF11 hF80 (by decide)
        have w82 : dt78 12 3 = dt8 12 3 := hF80 12 (by decide) 3
        rcases h77 with ⟨v_h77, rfl, h77r, h77⟩
        obtain ⟨h77_0, h77_1, h77_2⟩ := h77
        have dv83 : v_h77 = DVW (DRW (dt 1 0)) 4 := by have z_ := h77_2; rw [st15] at z_; exact z_
        have st84 : dt78 1 0 = DRW (dt 1 0) := by rw [h77_1, st15]
        have wg85 : WGT (dt78 72) (dt78 71 1) F (FQ F p1 p2 p3) (dt 11 (((p1 * 4) + 0)).toNat) := by rw [show dt78 72 = dt8 72 from funext (hF80 72 (by decide)), hF80 71 (by decide) 1]; exact wg14
        have hA86 := wg85.2.2
        have hP87 := wg85.2.1
        refine go_to (k := 4) (pc' := 96) (L' := [some (.inr (.inr (some 0))), some (.inl p1), some (.inl p2), some (.inl p3), some (.inl (-1)), some (.inl v_h77), none]) (st' := [.inl 100, .inr (.inr (some 0))]) (w' := (SH, dt78)) (fun _ => rfl) ?_
        refine go_call (Q' := _) rfl rfl rfl rfl rfl (sp_X5_draw_f L xs sio (d + 4) dt78 hI79  100 ⟨by omega, by omega⟩ ) ?_
        rintro _ _ ⟨dt89, rfl, hI90, hF91, h88⟩
        refine ⟨rfl, ?_⟩
        have hF92 : Fr [1, 12, 13, 71, 72, 73, 74] dt dt89 := Fr_tr hF81 hF91 (by decide)
        have w93 : dt89 12 3 = dt78 12 3 := hF91 12 (by decide) 3
        rcases h88 with ⟨v_h88, rfl, h88r, h88⟩
        obtain ⟨h88_0, h88_1, h88_2⟩ := h88
        have dv94 : v_h88 = DVW (DRW (DRW (dt 1 0))) 100 := by have z_ := h88_2; rw [st84] at z_; exact z_
        have st95 : dt89 1 0 = DRW (DRW (dt 1 0)) := by rw [h88_1, st84]
        have wg96 : WGT (dt89 72) (dt89 71 1) F (FQ F p1 p2 p3) (dt 11 (((p1 * 4) + 0)).toNat) := by rw [show dt89 72 = dt78 72 from funext (hF91 72 (by decide)), hF91 71 (by decide) 1]; exact wg85
        have hA97 := wg96.2.2
        have hP98 := wg96.2.1
        refine go_to (k := 4) (pc' := 108) (L' := [some (.inr (.inr (some 0))), some (.inl p1), some (.inl p2), some (.inl p3), some (.inl (-1)), some (.inl v_h77), none]) (st' := [.inl 8, .inr (.inr (some 72)), .inl v_h88]) (w' := (SH, dt89)) (fun _ => rfl) ?_
        have r99 : 0 ≤ dt89 72 8 ∧ dt89 72 8 ≤ 100 := InvC_get hI90 72 8 rfl rfl
        refine go_smp (L' := [some (.inr (.inr (some 0))), some (.inl p1), some (.inl p2), some (.inl p3), some (.inl (-1)), some (.inl v_h77), none]) (st' := [.inl (dt89 72 8), .inl v_h88]) (w' := (SH, dt89)) rfl rfl (s_iald (n := 9) (f := dt89 72) rfl ⟨by omega, by omega⟩) ?_
        refine go_if (k := 1) (p1 := 116) (p2 := 112) (L' := [some (.inr (.inr (some 0))), some (.inl p1), some (.inl p2), some (.inl p3), some (.inl (-1)), some (.inl v_h77), none]) (st' := []) (w' := (SH, dt89)) (fun _ => rfl) (c_ge (a := v_h88) (b := dt89 72 8) ⟨by omega, by omega⟩ ⟨by omega, by omega⟩) (fun c100 => ?_) (fun c100 => ?_)
        · skip
          refine go_to (k := 15) (pc' := 159) (L' := [some (.inr (.inr (some 0))), some (.inl p1), some (.inl p2), some (.inl p3), some (.inl (-1)), some (.inl v_h77), some (.inl 0)]) (st' := [.inl 0, .inl (-1), .inl v_h77, .inl p3, .inl p2, .inl p1, .inr (.inr (some 12))]) (w' := (SH, dt89)) (fun _ => rfl) ?_
          have r101 : 0 ≤ dt89 12 3 ∧ dt89 12 3 ≤ 300 := InvC_get hI90 12 3 rfl rfl
          refine go_call (Q' := _) rfl rfl rfl rfl rfl (sp_X2_add_12 L xs sio (d + 3) dt89 hI90  p1 ⟨by omega, by omega⟩ p2 ⟨by omega, by omega⟩ p3 ⟨by omega, by omega⟩ v_h77 ⟨by omega, by omega⟩ (-1) ⟨by omega, by omega⟩ 0 ⟨by omega, by omega⟩ ) ?_
          rintro _ _ ⟨dt103, rfl, hI104, hF105, h102⟩
          refine ⟨rfl, ?_⟩
          have hF106 : Fr [1, 12, 13, 71, 72, 73, 74] dt dt103 := Fr_tr hF92 hF105 (by decide)
          have w107 : dt103 1 0 = dt89 1 0 := hF105 1 (by decide) 0
          rcases h102 with ⟨rfl, h102⟩ | ⟨v_h102, rfl, h102r, h102⟩
          · skip
            obtain ⟨h102_0, h102_1⟩ := h102
            have st108 : dt103 1 0 = (DRW (DRW (dt 1 0))) := (hF105 1 (by decide) 0).trans st95
            have wg109 : WGT (dt103 72) (dt103 71 1) F (FQ F p1 p2 p3) (dt 11 (((p1 * 4) + 0)).toNat) := by rw [show dt103 72 = dt89 72 from funext (hF105 72 (by decide)), hF105 71 (by decide) 1]; exact wg96
            have hA110 := wg109.2.2
            have hP111 := wg109.2.1
            refine go_ret (k := 3) (r := some (.inl v_h77)) (w1 := (SH, dt103)) (fun _ => rfl) ?_
            exact ⟨dt103, rfl, hI104, hF106, (Or.inr ⟨_, rfl, ⟨by omega, by omega⟩, ⟨by first | trivial | omega, by exact st108, by first | trivial | omega, by unfold AKB; rw [← ec_.1]; first | (rw [if_pos (by omega)]; exact hI) | (rw [if_neg (by omega), if_pos (by omega)]; exact dv83) | (rw [if_neg (by omega), if_neg (by omega), ← hA_, ← dv83, ← hI]; exact hI)⟩⟩)⟩
          · skip
            obtain ⟨h102_0, h102_1, h102_2⟩ := h102
            have st112 : dt103 1 0 = (DRW (DRW (dt 1 0))) := (hF105 1 (by decide) 0).trans st95
            have wg113 : WGT (dt103 72) (dt103 71 1) F (FQ F p1 p2 p3) (dt 11 (((p1 * 4) + 0)).toNat) := by rw [show dt103 72 = dt89 72 from funext (hF105 72 (by decide)), hF105 71 (by decide) 1]; exact wg96
            have hA114 := wg113.2.2
            have hP115 := wg113.2.1
            refine go_ret (k := 3) (r := some (.inl v_h77)) (w1 := (SH, dt103)) (fun _ => rfl) ?_
            exact ⟨dt103, rfl, hI104, hF106, (Or.inr ⟨_, rfl, ⟨by omega, by omega⟩, ⟨by first | trivial | omega, by exact st112, by first | trivial | omega, by unfold AKB; rw [← ec_.1]; first | (rw [if_pos (by omega)]; exact hI) | (rw [if_neg (by omega), if_pos (by omega)]; exact dv83) | (rw [if_neg (by omega), if_neg (by omega), ← hA_, ← dv83, ← hI]; exact hI)⟩⟩)⟩
        · skip
          refine go_to (k := 9) (pc' := 130) (L' := [some (.inr (.inr (some 0))), some (.inl p1), some (.inl p2), some (.inl p3), some (.inl (-1)), some (.inl v_h77), some (.inl 1)]) (st' := [.inl 0, .inl p2, .inr (.inr (some 1))]) (w' := (SH, dt89)) (fun _ => rfl) ?_
          refine go_call (Q' := _) rfl rfl rfl rfl rfl (sp_X0_saidOf_f L xs sio (d + 3) dt89 hI90  p2 ⟨by omega, by omega⟩ 0 ⟨by omega, by omega⟩ (by first | trivial | omega | exact wg96 | exact ALK_fr h_p0 hF92 (fun k a b z_ => by simp at z_; omega) | (rw [show dt89 9 = dt 9 from funext (hF92 9 (by decide))]; exact h_p0.2.2.1) | (rw [show dt89 7 3 = dt 7 3 from hF92 7 (by decide) 3]; first | omega | exact h_p0.2.2.2.2.1) | (rw [show dt89 10 3 = dt 10 3 from hF92 10 (by decide) 3]; omega))) ?_
          rintro _ _ ⟨rfl, h116⟩
          refine ⟨rfl, ?_⟩
          rcases h116 with ⟨rfl, h116⟩
          have sd117 : dt89 9 (((p2 * 11) + 0)).toNat = SAID F p2.toNat 0 := by rw [hF92 9 (by decide)]; have z_ := h_p0.2.2.1 p2.toNat (by omega) (0).toNat (by omega); rw [show 11 * p2.toNat + (0).toNat = (((p2 * 11) + 0)).toNat by omega, show (((0).toNat : Nat) : Int) = 0 by omega] at z_; exact z_
          refine go_to (k := 13) (pc' := 159) (L' := [some (.inr (.inr (some 0))), some (.inl p1), some (.inl p2), some (.inl p3), some (.inl (-1)), some (.inl (dt89 9 (((p2 * 11) + 0)).toNat)), some (.inl 1)]) (st' := [.inl 1, .inl (-1), .inl (dt89 9 (((p2 * 11) + 0)).toNat), .inl p3, .inl p2, .inl p1, .inr (.inr (some 12))]) (w' := (SH, dt89)) (fun _ => rfl) ?_
          have r118 : 0 ≤ dt89 12 3 ∧ dt89 12 3 ≤ 300 := InvC_get hI90 12 3 rfl rfl
          refine go_call (Q' := _) rfl rfl rfl rfl rfl (sp_X2_add_12 L xs sio (d + 3) dt89 hI90  p1 ⟨by omega, by omega⟩ p2 ⟨by omega, by omega⟩ p3 ⟨by omega, by omega⟩ (dt89 9 (((p2 * 11) + 0)).toNat) ⟨by omega, by omega⟩ (-1) ⟨by omega, by omega⟩ 1 ⟨by omega, by omega⟩ ) ?_
          rintro _ _ ⟨dt120, rfl, hI121, hF122, h119⟩
          refine ⟨rfl, ?_⟩
          have hF123 : Fr [1, 12, 13, 71, 72, 73, 74] dt dt120 := Fr_tr hF92 hF122 (by decide)
          have w124 : dt120 1 0 = dt89 1 0 := hF122 1 (by decide) 0
          rcases h119 with ⟨rfl, h119⟩ | ⟨v_h119, rfl, h119r, h119⟩
          · skip
            obtain ⟨h119_0, h119_1⟩ := h119
            have st125 : dt120 1 0 = (DRW (DRW (dt 1 0))) := (hF122 1 (by decide) 0).trans st95
            have wg126 : WGT (dt120 72) (dt120 71 1) F (FQ F p1 p2 p3) (dt 11 (((p1 * 4) + 0)).toNat) := by rw [show dt120 72 = dt89 72 from funext (hF122 72 (by decide)), hF122 71 (by decide) 1]; exact wg96
            have hA127 := wg126.2.2
            have hP128 := wg126.2.1
            refine go_ret (k := 3) (r := some (.inl (dt89 9 (((p2 * 11) + 0)).toNat))) (w1 := (SH, dt120)) (fun _ => rfl) ?_
            exact ⟨dt120, rfl, hI121, hF123, (Or.inr ⟨_, rfl, ⟨by omega, by omega⟩, ⟨by first | trivial | omega, by exact st125, by first | trivial | omega, by unfold AKB; rw [← ec_.1]; first | (rw [if_pos (by omega)]; exact sd117) | (rw [if_neg (by omega), if_pos (by omega)]; exact dv83) | (rw [if_neg (by omega), if_neg (by omega), ← hA_, ← dv83, ← hI]; exact hI)⟩⟩)⟩
          · skip
            obtain ⟨h119_0, h119_1, h119_2⟩ := h119
            have st129 : dt120 1 0 = (DRW (DRW (dt 1 0))) := (hF122 1 (by decide) 0).trans st95
            have wg130 : WGT (dt120 72) (dt120 71 1) F (FQ F p1 p2 p3) (dt 11 (((p1 * 4) + 0)).toNat) := by rw [show dt120 72 = dt89 72 from funext (hF122 72 (by decide)), hF122 71 (by decide) 1]; exact wg96
            have hA131 := wg130.2.2
            have hP132 := wg130.2.1
            refine go_ret (k := 3) (r := some (.inl (dt89 9 (((p2 * 11) + 0)).toNat))) (w1 := (SH, dt120)) (fun _ => rfl) ?_
            exact ⟨dt120, rfl, hI121, hF123, (Or.inr ⟨_, rfl, ⟨by omega, by omega⟩, ⟨by first | trivial | omega, by exact st129, by first | trivial | omega, by unfold AKB; rw [← ec_.1]; first | (rw [if_pos (by omega)]; exact sd117) | (rw [if_neg (by omega), if_pos (by omega)]; exact dv83) | (rw [if_neg (by omega), if_neg (by omega), ← hA_, ← dv83, ← hI]; exact hI)⟩⟩)⟩
  · skip
    refine go_ret (k := 3) (r := some (.inl (-2))) (w1 := (SH, dt)) (fun _ => rfl) ?_
    first | exact ⟨dt, rfl, hI, hF, (Or.inl ⟨rfl, ⟨by first | trivial | omega, by first | trivial | omega, by first | trivial | omega⟩⟩)⟩ | exact ⟨dt, rfl, hI, hF, (Or.inr ⟨_, rfl, ⟨by omega, by omega⟩, ⟨by first | trivial | omega, by exact hI, by first | trivial | omega, by unfold AKB; rw [← ec_.1]; first | (rw [if_pos (by omega)]; exact hI) | (rw [if_neg (by omega), if_pos (by omega)]; exact hI) | (rw [if_neg (by omega), if_neg (by omega), ← hA_, ← hI, ← hI]; exact hI)⟩⟩)⟩
set_option maxRecDepth 20000 in
theorem chk_sp_X6_ask_f (L : Nat) (xs : Nat → Int32) (sio : Option Nat) (d : Nat) (dt : Nat → Nat → Int) (hI : InvC dt) (hM : MW (dt 80))  (p1 : Int) (h_p1 : (-2147483648) ≤ p1 ∧ p1 ≤ 2147483647) (p2 : Int) (h_p2 : (-2147483648) ≤ p2 ∧ p2 ≤ 2147483647) (p3 : Int) (h_p3 : (-2147483648) ≤ p3 ∧ p3 ≤ 2147483647)  : GO (am_XX L xs sio) (d + 6) 211 0 [some (.inr (.inr (some 79))), some (.inl p1), some (.inl p2), some (.inl p3), none, none, none, none, none] [] (SH, dt) (fun r w2 => ∃ dt2 : Nat → Nat → Int, w2 = (SH, dt2) ∧ InvC dt2 ∧ Fr [80, 86, 87, 88, 89, 90, 91, 92, 93, 94, 95, 96, 97, 98, 99, 100] dt dt2 ∧ ((r = some (.inl (-2)) ∧ (¬ ((0 ≤ p1 ∧ p1 < dt 80 2) ∧ (0 ≤ p2 ∧ p2 < dt 80 1) ∧ (0 ≤ p3 ∧ p3 ≤ 3) ∧ dt 80 3 < 300)) ∧ (MW (dt2 80)) ∧ (dt2 80 0 = dt 80 0) ∧ (dt2 80 1 = dt 80 1) ∧ (dt2 80 2 = dt 80 2) ∧ (dt2 80 3 = dt 80 3) ∧ (dt2 80 4 = dt 80 4) ∧ (dt2 80 5 = dt 80 5) ∧ (∀ j : Nat, dt2 80 j = dt 80 j)) ∨ (∃ v : Int, r = some (.inl v) ∧ ((-2147483648) ≤ v ∧ v ≤ 2147483647) ∧ ((0 ≤ p1 ∧ p1 < dt 80 2) ∧ (0 ≤ p2 ∧ p2 < dt 80 1) ∧ (0 ≤ p3 ∧ p3 ≤ 3) ∧ dt 80 3 < 300) ∧ (MW (dt2 80)) ∧ (dt2 80 0 = wr (1664525 * (wr (1664525 * (dt 80 0) + 1013904223)) + 1013904223)) ∧ (dt2 80 3 = dt 80 3 + 1) ∧ (dt2 80 1 = dt 80 1) ∧ (dt2 80 2 = dt 80 2) ∧ (dt2 80 4 = dt 80 4) ∧ (dt2 80 5 = dt 80 5) ∧ (∀ j : Nat, ¬ j = 0 → ¬ j = 3 → (j < 5540 + 6 * (dt 80 3).toNat ∨ 5546 + 6 * (dt 80 3).toNat ≤ j) → dt2 80 j = dt 80 j) ∧ (v = AKB (dt 80) (FQ (dt 80) p1 p2 p3) (dt 80 (5380 + 4 * p1.toNat)) p2.toNat (dt 80 0))))) := by
  have hF : Fr [80, 86, 87, 88, 89, 90, 91, 92, 93, 94, 95, 96, 97, 98, 99, 100] dt dt := Fr_refl
  have r1 : (-2147483648) ≤ dt 80 1 ∧ dt 80 1 ≤ 2147483647 := InvC_get hI 80 1 rfl rfl
  have r2 := MW_n hM
  have r3 : (-2147483648) ≤ dt 80 2 ∧ dt 80 2 ≤ 2147483647 := InvC_get hI 80 2 rfl rfl
  have r4 : (-2147483648) ≤ dt 80 3 ∧ dt 80 3 ≤ 2147483647 := InvC_get hI 80 3 rfl rfl
  refine go_to (k := 2) (pc' := 2) (L' := [some (.inr (.inr (some 79))), some (.inl p1), some (.inl p2), some (.inl p3), none, none, none, none, none]) (st' := [.inl p1, .inr (.inr (some 79))]) (w' := (SH, dt)) (fun _ => rfl) ?_
  refine go_call (Q' := _) rfl rfl rfl rfl rfl (sp_X6_isChild L xs sio (d + 4) dt hI hM  p1 ⟨by omega, by omega⟩ ) ?_
  rintro _ _ ⟨rfl, h5⟩
  refine ⟨rfl, ?_⟩
  rcases h5 with ⟨rfl, h5⟩ | ⟨rfl, h5⟩
  · skip
    refine go_to (k := 3) (pc' := 10) (L' := [some (.inr (.inr (some 79))), some (.inl p1), some (.inl p2), some (.inl p3), none, none, none, none, none]) (st' := [.inl p2, .inr (.inr (some 79))]) (w' := (SH, dt)) (fun _ => rfl) ?_
    refine go_call (Q' := _) rfl rfl rfl rfl rfl (sp_X6_isQuestion L xs sio (d + 4) dt hI hM  p2 ⟨by omega, by omega⟩ ) ?_
    rintro _ _ ⟨rfl, h6⟩
    refine ⟨rfl, ?_⟩
    rcases h6 with ⟨rfl, h6⟩ | ⟨rfl, h6⟩
    · skip
      refine go_to (k := 2) (pc' := 17) (L' := [some (.inr (.inr (some 79))), some (.inl p1), some (.inl p2), some (.inl p3), none, none, none, none, none]) (st' := [.inl p3]) (w' := (SH, dt)) (fun _ => rfl) ?_
      refine go_call (Q' := _) rfl rfl rfl rfl rfl (sp_X6_isHow L xs sio (d + 4) dt hI  p3 ⟨by omega, by omega⟩ ) ?_
      rintro _ _ ⟨rfl, h7⟩
      refine ⟨rfl, ?_⟩
      rcases h7 with ⟨rfl, h7⟩ | ⟨rfl, h7⟩
      · skip
        refine go_to (k := 4) (pc' := 28) (L' := [some (.inr (.inr (some 79))), some (.inl p1), some (.inl p2), some (.inl p3), none, none, none, none, none]) (st' := [.inl 3, .inr (.inr (some 80))]) (w' := (SH, dt)) (fun _ => rfl) ?_
        refine go_smp (L' := [some (.inr (.inr (some 79))), some (.inl p1), some (.inl p2), some (.inl p3), none, none, none, none, none]) (st' := [.inl (dt 80 3)]) (w' := (SH, dt)) rfl rfl (s_iald (n := 7460) (f := dt 80) rfl ⟨by omega, by omega⟩) ?_
        refine go_if (k := 2) (p1 := 38) (p2 := 35) (L' := [some (.inr (.inr (some 79))), some (.inl p1), some (.inl p2), some (.inl p3), none, none, none, none, none]) (st' := []) (w' := (SH, dt)) (fun _ => rfl) (c_ne (a := dt 80 3) (b := 300) ⟨by omega, by omega⟩ ⟨by omega, by omega⟩) (fun c8 => ?_) (fun c8 => ?_)
        · skip
          refine go_to (k := 4) (pc' := 42) (L' := [some (.inr (.inr (some 79))), some (.inl p1), some (.inl p2), some (.inl p3), none, none, none, none, none]) (st' := [.inl p3, .inl p2, .inl p1, .inr (.inr (some 79))]) (w' := (SH, dt)) (fun _ => rfl) ?_
          refine go_call (Q' := _) rfl rfl rfl rfl rfl (sp_X6_gathers_g L xs sio (d + 0) dt hI hM  p1 ⟨by omega, by omega⟩ p2 ⟨by omega, by omega⟩ p3 ⟨by omega, by omega⟩ ) ?_
          rintro _ _ ⟨dt10, rfl, hI11, hF12, h9⟩
          refine ⟨rfl, ?_⟩
          have hF13 : Fr [80, 86, 87, 88, 89, 90, 91, 92, 93, 94, 95, 96, 97, 98, 99, 100] dt dt10 := Fr_tr hF hF12 (by decide)
          have hM14 : MW (dt10 80) := MW_fr hM hF12 (by decide)
          have w15 : dt10 80 0 = dt 80 0 := hF12 80 (by decide) 0
          have w16 : dt10 80 3 = dt 80 3 := hF12 80 (by decide) 3
          have AG17 : ∀ j, 1 ≤ j → dt10 80 j = dt 80 j := fun j hj => (hF12 80 (by decide) j).trans ((fun j _ => rfl) j hj)
          rcases h9 with ⟨rfl, h9⟩
          have st18 : dt10 80 0 = dt 80 0 := hF12 80 (by decide) 0
          refine go_to (k := 3) (pc' := 48) (L' := [some (.inr (.inr (some 79))), some (.inl p1), some (.inl p2), some (.inl p3), none, none, none, none, none]) (st' := [.inl 0, .inl p1, .inr (.inr (some 79))]) (w' := (SH, dt10)) (fun _ => rfl) ?_
          refine go_call (Q' := _) rfl rfl rfl rfl rfl (sp_X6_ofChild_0 L xs sio (d + 5) dt10 hI11 hM14  p1 ⟨by omega, by omega⟩ ) ?_
          rintro _ _ ⟨rfl, h19⟩
          refine ⟨rfl, ?_⟩
          rcases h19 with ⟨rfl, h19⟩
          refine go_to (k := 3) (pc' := 56) (L' := [some (.inr (.inr (some 79))), some (.inl p1), some (.inl p2), some (.inl p3), some (.inl (dt10 80 (((5380 + (4 * p1)) + 0)).toNat)), none, none, none, none]) (st' := [.inl (dt10 80 (((5380 + (4 * p1)) + 0)).toNat), .inr (.inr (some 79))]) (w' := (SH, dt10)) (fun _ => rfl) ?_
          refine go_call (Q' := _) rfl rfl rfl rfl rfl (sp_X6_allWeights L xs sio (d + 2) dt10 hI11 hM14  (dt10 80 (((5380 + (4 * p1)) + 0)).toNat) ⟨by omega, by omega⟩ ) ?_
          rintro _ _ ⟨dt21, rfl, hI22, hF23, h20⟩
          refine ⟨rfl, ?_⟩
          have hF24 : Fr [80, 86, 87, 88, 89, 90, 91, 92, 93, 94, 95, 96, 97, 98, 99, 100] dt dt21 := Fr_tr hF13 hF23 (by decide)
          have hM25 : MW (dt21 80) := MW_fr hM14 hF23 (by decide)
          have w26 : dt21 80 0 = dt10 80 0 := hF23 80 (by decide) 0
          have w27 : dt21 80 3 = dt10 80 3 := hF23 80 (by decide) 3
          have AG28 : ∀ j, 1 ≤ j → dt21 80 j = dt 80 j := fun j hj => (hF23 80 (by decide) j).trans (AG17 j hj)
          have ES29 : dt21 87 = dt10 87 := funext (hF23 87 (by decide))
          rcases h20 with ⟨v_h20, rfl, h20r, h20⟩
          have wv30 := h20
          rw [WS_fa h9_0 8] at wv30
          have lw_ : dt 80 (5380 + 4 * p1.toNat) = (dt10 80 (((5380 + (4 * p1)) + 0)).toNat) := by rw [show (((5380 + (4 * p1)) + 0)).toNat = 5380 + 4 * p1.toNat by omega]; exact (hF12 80 (by decide) _).symm
          have ga31 : ∀ s : Nat, 1 ≤ s → s ≤ 6 → dt21 87 s = FQ (dt 80) p1 p2 p3 s := fun s a b => (hF23 87 (by decide) s).trans (h9_0 s a b)
          have ve32 : VR dt21 = wend (dt 80) (dt 80 (5320 + 5 * p2.toNat)) := (VR_frS hF23 (fun k a b h_ => by simp at h_; omega)).trans h9_1
          have st33 : dt21 80 0 = (dt 80 0) := (hF23 80 (by decide) 0).trans st18
          rw [WS_con (f := dt 80) (by omega) AG17 8] at h20
          (try simp only [ES29] at h20)
          refine go_if (k := 7) (p1 := 82) (p2 := 72) (L' := [some (.inr (.inr (some 79))), some (.inl p1), some (.inl p2), some (.inl p3), some (.inl (dt10 80 (((5380 + (4 * p1)) + 0)).toNat)), some (.inl v_h20), some (.inl (-1)), some (.inl 0), none]) (st' := []) (w' := (SH, dt21)) (fun _ => rfl) (z_ne (a := v_h20) ⟨by omega, by omega⟩) (fun c34 => ?_) (fun c34 => ?_)
          · skip
            refine go_to (k := 2) (pc' := 85) (L' := [some (.inr (.inr (some 79))), some (.inl p1), some (.inl p2), some (.inl p3), some (.inl (dt10 80 (((5380 + (4 * p1)) + 0)).toNat)), some (.inl v_h20), some (.inl (-1)), some (.inl 0), none]) (st' := [.inl v_h20, .inr (.inr (some 79))]) (w' := (SH, dt21)) (fun _ => rfl) ?_
            refine go_call (Q' := _) rfl rfl rfl rfl rfl (sp_X6_draw_f L xs sio (d + 5) dt21 hI22 hM25  v_h20 ⟨by omega, by omega⟩ ) ?_
            rintro _ _ ⟨dt36, rfl, hI37, hF38, h35⟩
            refine ⟨rfl, ?_⟩
            have hF39 : Fr [80, 86, 87, 88, 89, 90, 91, 92, 93, 94, 95, 96, 97, 98, 99, 100] dt dt36 := Fr_tr hF24 hF38 (by decide)
            have ES40 : dt36 87 = dt21 87 := funext (hF38 87 (by decide))
            rcases h35 with ⟨v_h35, rfl, h35r, h35⟩
            have hM41 : MW (dt36 80) := h35.2.2.2.1
            have AG42 : ∀ j, 1 ≤ j → dt36 80 j = dt 80 j := fun j hj => (h35.2.2.1 j hj).trans (AG28 j hj)
            have dv43 : v_h35 = DVW (DRW (dt 80 0)) v_h20 := by have z_ := h35_4; rw [st33] at z_; exact z_
            have st44 : dt36 80 0 = DRW (dt 80 0) := by rw [h35_1, st33]; rfl
            have ga45 : ∀ s : Nat, 1 ≤ s → s ≤ 6 → dt36 87 s = FQ (dt 80) p1 p2 p3 s := fun s a b => (hF38 87 (by decide) s).trans (ga31 s a b)
            have ve46 : VR dt36 = wend (dt 80) (dt 80 (5320 + 5 * p2.toNat)) := (VR_frS hF38 (fun k a b h_ => by simp at h_; omega)).trans ve32
            refine go_to (k := 3) (pc' := 93) (L' := [some (.inr (.inr (some 79))), some (.inl p1), some (.inl p2), some (.inl p3), some (.inl (dt10 80 (((5380 + (4 * p1)) + 0)).toNat)), some (.inl v_h20), some (.inl 0), some (.inl 0), some (.inl v_h35)]) (st' := []) (w' := (SH, dt36)) (fun _ => rfl) ?_
            have loop90 : ∀ (k_ : Nat) (l93_6 : Int) (l93_8 : Int) (dt77 : Nat → Nat → Int) (hI78 : InvC dt77) (hF79 : Fr [80, 86, 87, 88, 89, 90, 91, 92, 93, 94, 95, 96, 97, 98, 99, 100] dt dt77) (hM_dt77 : MW (dt77 80)) (i80 : 0 ≤ l93_6 ∧ l93_6 ≤ 8) (i81 : 0 ≤ l93_8 ∧ l93_8 ≤ 999) (i82 : l93_8 + WS (dt 80) (dt77 87) (dt10 80 (((5380 + (4 * p1)) + 0)).toNat) (l93_6).toNat < WS (dt 80) (dt77 87) (dt10 80 (((5380 + (4 * p1)) + 0)).toNat) 8) (i83 : ∀ j, 1 ≤ j → dt77 80 j = dt 80 j) (i84 : dt77 80 0 = wr (1664525 * (dt 80 0) + 1013904223)) (i85 : l93_8 + WS (dt 80) (FQ (dt 80) p1 p2 p3) (dt10 80 (((5380 + (4 * p1)) + 0)).toNat) (l93_6).toNat = DVW (DRW (dt 80 0)) (WS (dt 80) (FQ (dt 80) p1 p2 p3) (dt10 80 (((5380 + (4 * p1)) + 0)).toNat) 8)) (i86 : ∀ s : Nat, 1 ≤ s → s ≤ 6 → dt77 87 s = FQ (dt 80) p1 p2 p3 s) (i87 : VR dt77 = wend (dt 80) (dt 80 (5320 + 5 * p2.toNat))) (i88 : dt77 80 0 = dt36 80 0) (i89 : dt77 80 3 = dt36 80 3), (9 - l93_6).toNat < k_ → GO (am_XX L xs sio) (d + 6) 211 93 [some (.inr (.inr (some 79))), some (.inl p1), some (.inl p2), some (.inl p3), some (.inl (dt10 80 (((5380 + (4 * p1)) + 0)).toNat)), none, some (.inl l93_6), none, some (.inl l93_8)] [] (SH, dt77) (fun r w2 => ∃ dt2 : Nat → Nat → Int, w2 = (SH, dt2) ∧ InvC dt2 ∧ Fr [80, 86, 87, 88, 89, 90, 91, 92, 93, 94, 95, 96, 97, 98, 99, 100] dt dt2 ∧ ((r = some (.inl (-2)) ∧ (¬ ((0 ≤ p1 ∧ p1 < dt 80 2) ∧ (0 ≤ p2 ∧ p2 < dt 80 1) ∧ (0 ≤ p3 ∧ p3 ≤ 3) ∧ dt 80 3 < 300)) ∧ (MW (dt2 80)) ∧ (dt2 80 0 = dt 80 0) ∧ (dt2 80 1 = dt 80 1) ∧ (dt2 80 2 = dt 80 2) ∧ (dt2 80 3 = dt 80 3) ∧ (dt2 80 4 = dt 80 4) ∧ (dt2 80 5 = dt 80 5) ∧ (∀ j : Nat, dt2 80 j = dt 80 j)) ∨ (∃ v : Int, r = some (.inl v) ∧ ((-2147483648) ≤ v ∧ v ≤ 2147483647) ∧ ((0 ≤ p1 ∧ p1 < dt 80 2) ∧ (0 ≤ p2 ∧ p2 < dt 80 1) ∧ (0 ≤ p3 ∧ p3 ≤ 3) ∧ dt 80 3 < 300) ∧ (MW (dt2 80)) ∧ (dt2 80 0 = wr (1664525 * (wr (1664525 * (dt 80 0) + 1013904223)) + 1013904223)) ∧ (dt2 80 3 = dt 80 3 + 1) ∧ (dt2 80 1 = dt 80 1) ∧ (dt2 80 2 = dt 80 2) ∧ (dt2 80 4 = dt 80 4) ∧ (dt2 80 5 = dt 80 5) ∧ (∀ j : Nat, ¬ j = 0 → ¬ j = 3 → (j < 5540 + 6 * (dt 80 3).toNat ∨ 5546 + 6 * (dt 80 3).toNat ≤ j) → dt2 80 j = dt 80 j) ∧ (v = AKB (dt 80) (FQ (dt 80) p1 p2 p3) (dt 80 (5380 + 4 * p1.toNat)) p2.toNat (dt 80 0))))) := by
              intro k_
              induction k_ with
              | zero => intro l93_6 l93_8 dt77 hI78 hF79 hM_dt77 i80 i81 i82 i83 i84 i85 i86 i87 i88 i89 hm; exact absurd hm (Nat.not_lt_zero _)
              | succ k_ ih_loop90 =>
                intro l93_6 l93_8 dt77 hI78 hF79 hM_dt77 i80 i81 i82 i83 i84 i85 i86 i87 i88 i89 hm
                have h7 : ¬ l93_6 = 8 := fun e => by have z := i82; rw [e] at z; exact absurd z (show ¬ (l93_8 + WS (dt 80) (dt77 87) (dt10 80 (((5380 + (4 * p1)) + 0)).toNat) 8 < WS (dt 80) (dt77 87) (dt10 80 (((5380 + (4 * p1)) + 0)).toNat) 8) by omega)
                have hs := WS_s (f := dt 80) (fa := dt77 87) (l := (dt10 80 (((5380 + (4 * p1)) + 0)).toNat)) (r := l93_6) (by omega)
                have qD := i85
                have qG := i86
                have qV := i87
                have qZ := i84
                have hs2_ := WS_s (f := dt 80) (fa := (FQ (dt 80) p1 p2 p3)) (l := (dt10 80 (((5380 + (4 * p1)) + 0)).toNat)) (r := l93_6) (by omega)
                refine go_to (k := 4) (pc' := 100) (L' := [some (.inr (.inr (some 79))), some (.inl p1), some (.inl p2), some (.inl p3), some (.inl (dt10 80 (((5380 + (4 * p1)) + 0)).toNat)), none, some (.inl l93_6), none, some (.inl l93_8)]) (st' := [.inl l93_6, .inl (dt10 80 (((5380 + (4 * p1)) + 0)).toNat), .inr (.inr (some 79)), .inl l93_8]) (w' := (SH, dt77)) (fun _ => rfl) ?_
                refine go_call (Q' := _) rfl rfl rfl rfl rfl (sp_X6_weighs L xs sio (d + 3) dt77 hI78 hM_dt77  (dt10 80 (((5380 + (4 * p1)) + 0)).toNat) ⟨by omega, by omega⟩ l93_6 ⟨by omega, by omega⟩ ) ?_
                rintro _ _ ⟨dt92, rfl, hI93, hF94, h91⟩
                refine ⟨rfl, ?_⟩
                have hF95 : Fr [80, 86, 87, 88, 89, 90, 91, 92, 93, 94, 95, 96, 97, 98, 99, 100] dt dt92 := Fr_tr hF79 hF94 (by decide)
                have hM96 : MW (dt92 80) := MW_fr hM_dt77 hF94 (by decide)
                have w97 : dt92 80 0 = dt77 80 0 := hF94 80 (by decide) 0
                have w98 : dt92 80 3 = dt77 80 3 := hF94 80 (by decide) 3
                have AG99 : ∀ j, 1 ≤ j → dt92 80 j = dt 80 j := fun j hj => (hF94 80 (by decide) j).trans (i83 j hj)
                have ES100 : dt92 87 = dt77 87 := funext (hF94 87 (by decide))
                rcases h91 with ⟨v_h91, rfl, h91r, h91⟩
                have wv101 := h91_0
                rw [WH_fa qG] at wv101
                have ga102 : ∀ s : Nat, 1 ≤ s → s ≤ 6 → dt92 87 s = FQ (dt 80) p1 p2 p3 s := fun s a b => (hF94 87 (by decide) s).trans (qG s a b)
                have ve103 : VR dt92 = wend (dt 80) (dt 80 (5320 + 5 * p2.toNat)) := (VR_frS hF94 (fun k a b h_ => by simp at h_; omega)).trans qV
                have st104 : dt92 80 0 = (DRW (dt 80 0)) := (hF94 80 (by decide) 0).trans qZ
                rw [WH_con (f := dt 80) (by omega) i83] at h91
                (try simp only [ES100] at h91)
                refine go_if (k := 1) (p1 := 125) (p2 := 106) (L' := [some (.inr (.inr (some 79))), some (.inl p1), some (.inl p2), some (.inl p3), some (.inl (dt10 80 (((5380 + (4 * p1)) + 0)).toNat)), none, some (.inl l93_6), none, some (.inl l93_8)]) (st' := []) (w' := (SH, dt92)) (fun _ => rfl) (c_lt (a := l93_8) (b := v_h91) ⟨by omega, by omega⟩ ⟨by omega, by omega⟩) (fun c105 => ?_) (fun c105 => ?_)
                · skip
                  refine go_to (k := 3) (pc' := 129) (L' := [some (.inr (.inr (some 79))), some (.inl p1), some (.inl p2), some (.inl p3), some (.inl (dt10 80 (((5380 + (4 * p1)) + 0)).toNat)), none, some (.inl l93_6), none, some (.inl l93_8)]) (st' := [.inl l93_6, .inl p2, .inr (.inr (some 79))]) (w' := (SH, dt92)) (fun _ => rfl) ?_
                  refine go_call (Q' := _) rfl rfl rfl rfl rfl (sp_X6_saysNow_f L xs sio (d + 4) dt92 hI93 hM96  p2 ⟨by omega, by omega⟩ l93_6 ⟨by omega, by omega⟩ ) ?_
                  rintro _ _ ⟨rfl, h106⟩
                  refine ⟨rfl, ?_⟩
                  rcases h106 with ⟨v_h106, rfl, h106r, h106⟩
                  have sn107 : v_h106 = SAID (dt 80) (p2).toNat l93_6 := by have z_ := h106; have f5_ : ∀ k : Nat, dt92 80 (5320 + 5 * (p2).toNat + k) = dt 80 (5320 + 5 * (p2).toNat + k) := fun k => AG99 _ (by omega); rw [ve103, f5_ 1, f5_ 2, f5_ 3, f5_ 4] at z_; rw [SAID_r (by omega)]; exact z_
                  refine go_to (k := 3) (pc' := 137) (L' := [some (.inr (.inr (some 79))), some (.inl p1), some (.inl p2), some (.inl p3), some (.inl (dt10 80 (((5380 + (4 * p1)) + 0)).toNat)), none, some (.inl l93_6), some (.inl v_h106), some (.inl l93_8)]) (st' := [.inl 100, .inr (.inr (some 79))]) (w' := (SH, dt92)) (fun _ => rfl) ?_
                  refine go_call (Q' := _) rfl rfl rfl rfl rfl (sp_X6_draw_f L xs sio (d + 5) dt92 hI93 hM96  100 ⟨by omega, by omega⟩ ) ?_
                  rintro _ _ ⟨dt109, rfl, hI110, hF111, h108⟩
                  refine ⟨rfl, ?_⟩
                  have hF112 : Fr [80, 86, 87, 88, 89, 90, 91, 92, 93, 94, 95, 96, 97, 98, 99, 100] dt dt109 := Fr_tr hF95 hF111 (by decide)
                  have ES113 : dt109 87 = dt92 87 := funext (hF111 87 (by decide))
                  rcases h108 with ⟨v_h108, rfl, h108r, h108⟩
                  have hM114 : MW (dt109 80) := h108.2.2.2.1
                  have AG115 : ∀ j, 1 ≤ j → dt109 80 j = dt 80 j := fun j hj => (h108.2.2.1 j hj).trans (AG99 j hj)
                  have dv116 : v_h108 = DVW (DRW (DRW (dt 80 0))) 100 := by have z_ := h108_4; rw [st104] at z_; exact z_
                  have st117 : dt109 80 0 = DRW (DRW (dt 80 0)) := by rw [h108_1, st104]; rfl
                  have ga118 : ∀ s : Nat, 1 ≤ s → s ≤ 6 → dt109 87 s = FQ (dt 80) p1 p2 p3 s := fun s a b => (hF111 87 (by decide) s).trans (ga102 s a b)
                  have ve119 : VR dt109 = wend (dt 80) (dt 80 (5320 + 5 * p2.toNat)) := (VR_frS hF111 (fun k a b h_ => by simp at h_; omega)).trans ve103
                  refine go_to (k := 3) (pc' := 145) (L' := [some (.inr (.inr (some 79))), some (.inl p1), some (.inl p2), some (.inl p3), some (.inl (dt10 80 (((5380 + (4 * p1)) + 0)).toNat)), none, some (.inl l93_6), some (.inl v_h106), some (.inl l93_8)]) (st' := [.inl 8, .inl (dt10 80 (((5380 + (4 * p1)) + 0)).toNat), .inr (.inr (some 79)), .inl v_h108]) (w' := (SH, dt109)) (fun _ => rfl) ?_
                  refine go_call (Q' := _) rfl rfl rfl rfl rfl (sp_X6_weighs L xs sio (d + 3) dt109 hI110 hM114  (dt10 80 (((5380 + (4 * p1)) + 0)).toNat) ⟨by omega, by omega⟩ 8 ⟨by omega, by omega⟩ ) ?_
                  rintro _ _ ⟨dt121, rfl, hI122, hF123, h120⟩
                  refine ⟨rfl, ?_⟩
                  have hF124 : Fr [80, 86, 87, 88, 89, 90, 91, 92, 93, 94, 95, 96, 97, 98, 99, 100] dt dt121 := Fr_tr hF112 hF123 (by decide)
                  have hM125 : MW (dt121 80) := MW_fr hM114 hF123 (by decide)
                  have w126 : dt121 80 0 = dt109 80 0 := hF123 80 (by decide) 0
                  have w127 : dt121 80 3 = dt109 80 3 := hF123 80 (by decide) 3
                  have AG128 : ∀ j, 1 ≤ j → dt121 80 j = dt 80 j := fun j hj => (hF123 80 (by decide) j).trans (AG115 j hj)
                  have ES129 : dt121 87 = dt109 87 := funext (hF123 87 (by decide))
                  rcases h120 with ⟨v_h120, rfl, h120r, h120⟩
                  have wv130 := h120_0
                  rw [WH_fa ga118] at wv130
                  have ga131 : ∀ s : Nat, 1 ≤ s → s ≤ 6 → dt121 87 s = FQ (dt 80) p1 p2 p3 s := fun s a b => (hF123 87 (by decide) s).trans (ga118 s a b)
                  have ve132 : VR dt121 = wend (dt 80) (dt 80 (5320 + 5 * p2.toNat)) := (VR_frS hF123 (fun k a b h_ => by simp at h_; omega)).trans ve119
                  have st133 : dt121 80 0 = (DRW (DRW (dt 80 0))) := (hF123 80 (by decide) 0).trans st117
                  rw [WH_con (f := dt 80) (by omega) AG115] at h120
                  (try simp only [ES100, ES113, ES129] at h120)
                  refine go_if (k := 1) (p1 := 155) (p2 := 151) (L' := [some (.inr (.inr (some 79))), some (.inl p1), some (.inl p2), some (.inl p3), some (.inl (dt10 80 (((5380 + (4 * p1)) + 0)).toNat)), none, some (.inl l93_6), some (.inl v_h106), some (.inl l93_8)]) (st' := []) (w' := (SH, dt121)) (fun _ => rfl) (c_ge (a := v_h108) (b := v_h120) ⟨by omega, by omega⟩ ⟨by omega, by omega⟩) (fun c134 => ?_) (fun c134 => ?_)
                  · skip
                    refine go_to (k := 15) (pc' := 194) (L' := [some (.inr (.inr (some 79))), some (.inl p1), some (.inl p2), some (.inl p3), some (.inl (dt10 80 (((5380 + (4 * p1)) + 0)).toNat)), none, some (.inl l93_6), some (.inl v_h106), some (.inl 0)]) (st' := [.inl 0, .inl l93_6, .inl v_h106, .inl p3, .inl p2, .inl p1, .inr (.inr (some 79))]) (w' := (SH, dt121)) (fun _ => rfl) ?_
                    have ag136 := AG128 1 (by decide)
                    have ag137 := AG128 2 (by decide)
                    have ag138 := AG128 3 (by decide)
                    have ag139 := AG128 4 (by decide)
                    have ag140 := AG128 5 (by decide)
                    refine go_call (Q' := _) rfl rfl rfl rfl rfl (sp_X6_answers_v L xs sio (d + 5) dt121 hI122 hM125  p1 ⟨by omega, by omega⟩ p2 ⟨by omega, by omega⟩ p3 ⟨by omega, by omega⟩ v_h106 ⟨by omega, by omega⟩ l93_6 ⟨by omega, by omega⟩ 0 ⟨by omega, by omega⟩ (by first | trivial | omega)) ?_
                    rintro _ _ ⟨dt141, rfl, hI142, hF143, h135⟩
                    refine ⟨rfl, ?_⟩
                    have hF144 : Fr [80, 86, 87, 88, 89, 90, 91, 92, 93, 94, 95, 96, 97, 98, 99, 100] dt dt141 := Fr_tr hF124 hF143 (by decide)
                    have ES145 : dt141 87 = dt121 87 := funext (hF143 87 (by decide))
                    rcases h135 with ⟨rfl, h135⟩
                    have hM146 : MW (dt141 80) := h135.1
                    have ga147 : ∀ s : Nat, 1 ≤ s → s ≤ 6 → dt141 87 s = FQ (dt 80) p1 p2 p3 s := fun s a b => (hF143 87 (by decide) s).trans (ga131 s a b)
                    have ve148 : VR dt141 = wend (dt 80) (dt 80 (5320 + 5 * p2.toNat)) := (VR_frS hF143 (fun k a b h_ => by simp at h_; omega)).trans ve132
                    refine go_ret (k := 2) (r := some (.inl v_h106)) (w1 := (SH, dt141)) (fun _ => rfl) ?_
                    exact ⟨dt141, rfl, hI142, hF144, (Or.inr ⟨_, rfl, ⟨by omega, by omega⟩, ⟨by first | trivial | omega, by assumption, by simp only [*], by first | trivial | omega, by first | trivial | omega, by first | trivial | omega, by first | trivial | omega, by first | trivial | omega, by intro j h0_ h1_ h2_; exact (h135.2.2.2.2.2.2.2.1 j h1_ (by rw [(AG128 3 (by decide))]; exact h2_)).trans (AG128 j (by omega)), by rw [lw_]; unfold AKB; first | (rw [if_pos (by omega)]; exact hI) | (rw [if_neg (by omega), if_pos (by omega)]; have z_ := dv43; exact z_) | (rw [if_neg (by omega), if_neg (by omega), ← RLF_u (r := l93_6) ⟨by omega, by omega⟩ (by omega) (by omega)]; exact sn107)⟩⟩)⟩
                  · skip
                    refine go_to (k := 8) (pc' := 166) (L' := [some (.inr (.inr (some 79))), some (.inl p1), some (.inl p2), some (.inl p3), some (.inl (dt10 80 (((5380 + (4 * p1)) + 0)).toNat)), none, some (.inl l93_6), some (.inl v_h106), some (.inl 1)]) (st' := [.inl 0, .inl p2, .inr (.inr (some 79))]) (w' := (SH, dt121)) (fun _ => rfl) ?_
                    refine go_call (Q' := _) rfl rfl rfl rfl rfl (sp_X6_saysNow_f L xs sio (d + 4) dt121 hI122 hM125  p2 ⟨by omega, by omega⟩ 0 ⟨by omega, by omega⟩ ) ?_
                    rintro _ _ ⟨rfl, h149⟩
                    refine ⟨rfl, ?_⟩
                    rcases h149 with ⟨v_h149, rfl, h149r, h149⟩
                    have sn150 : v_h149 = SAID (dt 80) (p2).toNat 0 := by have z_ := h149; have f5_ : ∀ k : Nat, dt121 80 (5320 + 5 * (p2).toNat + k) = dt 80 (5320 + 5 * (p2).toNat + k) := fun k => AG128 _ (by omega); rw [ve132, f5_ 1, f5_ 2, f5_ 3, f5_ 4] at z_; rw [SAID_r (by omega)]; exact z_
                    refine go_to (k := 12) (pc' := 194) (L' := [some (.inr (.inr (some 79))), some (.inl p1), some (.inl p2), some (.inl p3), some (.inl (dt10 80 (((5380 + (4 * p1)) + 0)).toNat)), none, some (.inl l93_6), some (.inl v_h149), some (.inl 1)]) (st' := [.inl 1, .inl l93_6, .inl v_h149, .inl p3, .inl p2, .inl p1, .inr (.inr (some 79))]) (w' := (SH, dt121)) (fun _ => rfl) ?_
                    have ag152 := AG128 1 (by decide)
                    have ag153 := AG128 2 (by decide)
                    have ag154 := AG128 3 (by decide)
                    have ag155 := AG128 4 (by decide)
                    have ag156 := AG128 5 (by decide)
                    refine go_call (Q' := _) rfl rfl rfl rfl rfl (sp_X6_answers_v L xs sio (d + 5) dt121 hI122 hM125  p1 ⟨by omega, by omega⟩ p2 ⟨by omega, by omega⟩ p3 ⟨by omega, by omega⟩ v_h149 ⟨by omega, by omega⟩ l93_6 ⟨by omega, by omega⟩ 1 ⟨by omega, by omega⟩ (by first | trivial | omega)) ?_
                    rintro _ _ ⟨dt157, rfl, hI158, hF159, h151⟩
                    refine ⟨rfl, ?_⟩
                    have hF160 : Fr [80, 86, 87, 88, 89, 90, 91, 92, 93, 94, 95, 96, 97, 98, 99, 100] dt dt157 := Fr_tr hF124 hF159 (by decide)
                    have ES161 : dt157 87 = dt121 87 := funext (hF159 87 (by decide))
                    rcases h151 with ⟨rfl, h151⟩
                    have hM162 : MW (dt157 80) := h151.1
                    have ga163 : ∀ s : Nat, 1 ≤ s → s ≤ 6 → dt157 87 s = FQ (dt 80) p1 p2 p3 s := fun s a b => (hF159 87 (by decide) s).trans (ga131 s a b)
                    have ve164 : VR dt157 = wend (dt 80) (dt 80 (5320 + 5 * p2.toNat)) := (VR_frS hF159 (fun k a b h_ => by simp at h_; omega)).trans ve132
                    refine go_ret (k := 2) (r := some (.inl v_h149)) (w1 := (SH, dt157)) (fun _ => rfl) ?_
                    exact ⟨dt157, rfl, hI158, hF160, (Or.inr ⟨_, rfl, ⟨by omega, by omega⟩, ⟨by first | trivial | omega, by assumption, by simp only [*], by first | trivial | omega, by first | trivial | omega, by first | trivial | omega, by first | trivial | omega, by first | trivial | omega, by intro j h0_ h1_ h2_; exact (h151.2.2.2.2.2.2.2.1 j h1_ (by rw [(AG128 3 (by decide))]; exact h2_)).trans (AG128 j (by omega)), by rw [lw_]; unfold AKB; first | (rw [if_pos (by omega)]; exact sn150) | (rw [if_neg (by omega), if_pos (by omega)]; have z_ := dv43; exact z_) | (rw [if_neg (by omega), if_neg (by omega), ← RLF_u (r := l93_6) ⟨by omega, by omega⟩ (by omega) (by omega)]; exact sn107)⟩⟩)⟩
                · skip
                  refine go_to (k := 4) (pc' := 113) (L' := [some (.inr (.inr (some 79))), some (.inl p1), some (.inl p2), some (.inl p3), some (.inl (dt10 80 (((5380 + (4 * p1)) + 0)).toNat)), none, some (.inl l93_6), none, some (.inl l93_8)]) (st' := [.inl l93_6, .inl (dt10 80 (((5380 + (4 * p1)) + 0)).toNat), .inr (.inr (some 79)), .inl l93_8]) (w' := (SH, dt92)) (fun _ => rfl) ?_
                  refine go_call (Q' := _) rfl rfl rfl rfl rfl (sp_X6_weighs L xs sio (d + 3) dt92 hI93 hM96  (dt10 80 (((5380 + (4 * p1)) + 0)).toNat) ⟨by omega, by omega⟩ l93_6 ⟨by omega, by omega⟩ ) ?_
                  rintro _ _ ⟨dt166, rfl, hI167, hF168, h165⟩
                  refine ⟨rfl, ?_⟩
                  have hF169 : Fr [80, 86, 87, 88, 89, 90, 91, 92, 93, 94, 95, 96, 97, 98, 99, 100] dt dt166 := Fr_tr hF95 hF168 (by decide)
                  have hM170 : MW (dt166 80) := MW_fr hM96 hF168 (by decide)
                  have w171 : dt166 80 0 = dt92 80 0 := hF168 80 (by decide) 0
                  have w172 : dt166 80 3 = dt92 80 3 := hF168 80 (by decide) 3
                  have AG173 : ∀ j, 1 ≤ j → dt166 80 j = dt 80 j := fun j hj => (hF168 80 (by decide) j).trans (AG99 j hj)
                  have ES174 : dt166 87 = dt92 87 := funext (hF168 87 (by decide))
                  rcases h165 with ⟨v_h165, rfl, h165r, h165⟩
                  have wv175 := h165_0
                  rw [WH_fa ga102] at wv175
                  have ga176 : ∀ s : Nat, 1 ≤ s → s ≤ 6 → dt166 87 s = FQ (dt 80) p1 p2 p3 s := fun s a b => (hF168 87 (by decide) s).trans (ga102 s a b)
                  have ve177 : VR dt166 = wend (dt 80) (dt 80 (5320 + 5 * p2.toNat)) := (VR_frS hF168 (fun k a b h_ => by simp at h_; omega)).trans ve103
                  have st178 : dt166 80 0 = (DRW (dt 80 0)) := (hF168 80 (by decide) 0).trans st104
                  rw [WH_con (f := dt 80) (by omega) AG99] at h165
                  (try simp only [ES100, ES174] at h165)
                  refine go_to (k := 4) (pc' := 93) (L' := [some (.inr (.inr (some 79))), some (.inl p1), some (.inl p2), some (.inl p3), some (.inl (dt10 80 (((5380 + (4 * p1)) + 0)).toNat)), none, some (.inl (l93_6 + 1)), none, some (.inl (l93_8 - v_h165))]) (st' := []) (w' := (SH, dt166)) (fun _ => rfl) ?_
                  exact GO.le (ih_loop90 (l93_6 + 1) (l93_8 - v_h165) dt166 hI167 hF169 hM170 (by first | omega | exact AG173 | (simp only [*]; done) | (simp only [ES100, ES174]; omega) | (simp only [ES100, ES174]; show _ + 0 < _; omega) | exact ga176 | exact ve177 | (rw [← wv30, ← dv43]; show _ + 0 = _; omega)) (by first | omega | exact AG173 | (simp only [*]; done) | (simp only [ES100, ES174]; omega) | (simp only [ES100, ES174]; show _ + 0 < _; omega) | exact ga176 | exact ve177 | (rw [← wv30, ← dv43]; show _ + 0 = _; omega)) (by first | omega | exact AG173 | (simp only [*]; done) | (simp only [ES100, ES174]; omega) | (simp only [ES100, ES174]; show _ + 0 < _; omega) | exact ga176 | exact ve177 | (rw [← wv30, ← dv43]; show _ + 0 = _; omega)) (by first | omega | exact AG173 | (simp only [*]; done) | (simp only [ES100, ES174]; omega) | (simp only [ES100, ES174]; show _ + 0 < _; omega) | exact ga176 | exact ve177 | (rw [← wv30, ← dv43]; show _ + 0 = _; omega)) (by first | omega | exact AG173 | (simp only [*]; done) | (simp only [ES100, ES174]; omega) | (simp only [ES100, ES174]; show _ + 0 < _; omega) | exact ga176 | exact ve177 | (rw [← wv30, ← dv43]; show _ + 0 = _; omega)) (by first | omega | exact AG173 | (simp only [*]; done) | (simp only [ES100, ES174]; omega) | (simp only [ES100, ES174]; show _ + 0 < _; omega) | exact ga176 | exact ve177 | (rw [← wv30, ← dv43]; show _ + 0 = _; omega)) (by first | omega | exact AG173 | (simp only [*]; done) | (simp only [ES100, ES174]; omega) | (simp only [ES100, ES174]; show _ + 0 < _; omega) | exact ga176 | exact ve177 | (rw [← wv30, ← dv43]; show _ + 0 = _; omega)) (by first | omega | exact AG173 | (simp only [*]; done) | (simp only [ES100, ES174]; omega) | (simp only [ES100, ES174]; show _ + 0 < _; omega) | exact ga176 | exact ve177 | (rw [← wv30, ← dv43]; show _ + 0 = _; omega)) (by first | omega | exact AG173 | (simp only [*]; done) | (simp only [ES100, ES174]; omega) | (simp only [ES100, ES174]; show _ + 0 < _; omega) | exact ga176 | exact ve177 | (rw [← wv30, ← dv43]; show _ + 0 = _; omega)) (by first | omega | exact AG173 | (simp only [*]; done) | (simp only [ES100, ES174]; omega) | (simp only [ES100, ES174]; show _ + 0 < _; omega) | exact ga176 | exact ve177 | (rw [← wv30, ← dv43]; show _ + 0 = _; omega)) (by omega)) ⟨.inl rfl, .inl rfl, .inl rfl, .inl rfl, .inl rfl, .inl rfl, .inl rfl, .inl rfl, .inl rfl, trivial⟩
            exact GO.le (loop90 _ 0 v_h35 dt36 hI37 hF39 hM41 (by first | omega | exact AG42 | (simp only [*]; done) | (simp only [ES29, ES40]; omega) | (simp only [ES29, ES40]; show _ + 0 < _; omega) | exact ga45 | exact ve46 | (rw [← wv30, ← dv43]; show _ + 0 = _; omega)) (by first | omega | exact AG42 | (simp only [*]; done) | (simp only [ES29, ES40]; omega) | (simp only [ES29, ES40]; show _ + 0 < _; omega) | exact ga45 | exact ve46 | (rw [← wv30, ← dv43]; show _ + 0 = _; omega)) (by first | omega | exact AG42 | (simp only [*]; done) | (simp only [ES29, ES40]; omega) | (simp only [ES29, ES40]; show _ + 0 < _; omega) | exact ga45 | exact ve46 | (rw [← wv30, ← dv43]; show _ + 0 = _; omega)) (by first | omega | exact AG42 | (simp only [*]; done) | (simp only [ES29, ES40]; omega) | (simp only [ES29, ES40]; show _ + 0 < _; omega) | exact ga45 | exact ve46 | (rw [← wv30, ← dv43]; show _ + 0 = _; omega)) (by first | omega | exact AG42 | (simp only [*]; done) | (simp only [ES29, ES40]; omega) | (simp only [ES29, ES40]; show _ + 0 < _; omega) | exact ga45 | exact ve46 | (rw [← wv30, ← dv43]; show _ + 0 = _; omega)) (by first | omega | exact AG42 | (simp only [*]; done) | (simp only [ES29, ES40]; omega) | (simp only [ES29, ES40]; show _ + 0 < _; omega) | exact ga45 | exact ve46 | (rw [← wv30, ← dv43]; show _ + 0 = _; omega)) (by first | omega | exact AG42 | (simp only [*]; done) | (simp only [ES29, ES40]; omega) | (simp only [ES29, ES40]; show _ + 0 < _; omega) | exact ga45 | exact ve46 | (rw [← wv30, ← dv43]; show _ + 0 = _; omega)) (by first | omega | exact AG42 | (simp only [*]; done) | (simp only [ES29, ES40]; omega) | (simp only [ES29, ES40]; show _ + 0 < _; omega) | exact ga45 | exact ve46 | (rw [← wv30, ← dv43]; show _ + 0 = _; omega)) (by first | omega | exact AG42 | (simp only [*]; done) | (simp only [ES29, ES40]; omega) | (simp only [ES29, ES40]; show _ + 0 < _; omega) | exact ga45 | exact ve46 | (rw [← wv30, ← dv43]; show _ + 0 = _; omega)) (by first | omega | exact AG42 | (simp only [*]; done) | (simp only [ES29, ES40]; omega) | (simp only [ES29, ES40]; show _ + 0 < _; omega) | exact ga45 | exact ve46 | (rw [← wv30, ← dv43]; show _ + 0 = _; omega)) (Nat.lt_succ_self _)) ⟨.inl rfl, .inl rfl, .inl rfl, .inl rfl, .inl rfl, .inr ⟨rfl, trivial⟩, .inl rfl, .inr ⟨rfl, trivial⟩, .inl rfl, trivial⟩
          · skip
            refine go_to (k := 2) (pc' := 74) (L' := [some (.inr (.inr (some 79))), some (.inl p1), some (.inl p2), some (.inl p3), some (.inl (dt10 80 (((5380 + (4 * p1)) + 0)).toNat)), some (.inl v_h20), some (.inl (-1)), some (.inl 0), none]) (st' := [.inl 4, .inr (.inr (some 79))]) (w' := (SH, dt21)) (fun _ => rfl) ?_
            refine go_call (Q' := _) rfl rfl rfl rfl rfl (sp_X6_draw_f L xs sio (d + 5) dt21 hI22 hM25  4 ⟨by omega, by omega⟩ ) ?_
            rintro _ _ ⟨dt180, rfl, hI181, hF182, h179⟩
            refine ⟨rfl, ?_⟩
            have hF183 : Fr [80, 86, 87, 88, 89, 90, 91, 92, 93, 94, 95, 96, 97, 98, 99, 100] dt dt180 := Fr_tr hF24 hF182 (by decide)
            have ES184 : dt180 87 = dt21 87 := funext (hF182 87 (by decide))
            rcases h179 with ⟨v_h179, rfl, h179r, h179⟩
            have hM185 : MW (dt180 80) := h179.2.2.2.1
            have AG186 : ∀ j, 1 ≤ j → dt180 80 j = dt 80 j := fun j hj => (h179.2.2.1 j hj).trans (AG28 j hj)
            have dv187 : v_h179 = DVW (DRW (dt 80 0)) 4 := by have z_ := h179_4; rw [st33] at z_; exact z_
            have st188 : dt180 80 0 = DRW (dt 80 0) := by rw [h179_1, st33]; rfl
            have ga189 : ∀ s : Nat, 1 ≤ s → s ≤ 6 → dt180 87 s = FQ (dt 80) p1 p2 p3 s := fun s a b => (hF182 87 (by decide) s).trans (ga31 s a b)
            have ve190 : VR dt180 = wend (dt 80) (dt 80 (5320 + 5 * p2.toNat)) := (VR_frS hF182 (fun k a b h_ => by simp at h_; omega)).trans ve32
            refine go_to (k := 4) (pc' := 137) (L' := [some (.inr (.inr (some 79))), some (.inl p1), some (.inl p2), some (.inl p3), some (.inl (dt10 80 (((5380 + (4 * p1)) + 0)).toNat)), some (.inl v_h20), some (.inl (-1)), some (.inl v_h179), none]) (st' := [.inl 100, .inr (.inr (some 79))]) (w' := (SH, dt180)) (fun _ => rfl) ?_
            refine go_call (Q' := _) rfl rfl rfl rfl rfl (sp_X6_draw_f L xs sio (d + 5) dt180 hI181 hM185  100 ⟨by omega, by omega⟩ ) ?_
            rintro _ _ ⟨dt192, rfl, hI193, hF194, h191⟩
            refine ⟨rfl, ?_⟩
            have hF195 : Fr [80, 86, 87, 88, 89, 90, 91, 92, 93, 94, 95, 96, 97, 98, 99, 100] dt dt192 := Fr_tr hF183 hF194 (by decide)
            have ES196 : dt192 87 = dt180 87 := funext (hF194 87 (by decide))
            rcases h191 with ⟨v_h191, rfl, h191r, h191⟩
            have hM197 : MW (dt192 80) := h191.2.2.2.1
            have AG198 : ∀ j, 1 ≤ j → dt192 80 j = dt 80 j := fun j hj => (h191.2.2.1 j hj).trans (AG186 j hj)
            have dv199 : v_h191 = DVW (DRW (DRW (dt 80 0))) 100 := by have z_ := h191_4; rw [st188] at z_; exact z_
            have st200 : dt192 80 0 = DRW (DRW (dt 80 0)) := by rw [h191_1, st188]; rfl
            have ga201 : ∀ s : Nat, 1 ≤ s → s ≤ 6 → dt192 87 s = FQ (dt 80) p1 p2 p3 s := fun s a b => (hF194 87 (by decide) s).trans (ga189 s a b)
            have ve202 : VR dt192 = wend (dt 80) (dt 80 (5320 + 5 * p2.toNat)) := (VR_frS hF194 (fun k a b h_ => by simp at h_; omega)).trans ve190
            refine go_to (k := 3) (pc' := 145) (L' := [some (.inr (.inr (some 79))), some (.inl p1), some (.inl p2), some (.inl p3), some (.inl (dt10 80 (((5380 + (4 * p1)) + 0)).toNat)), some (.inl v_h20), some (.inl (-1)), some (.inl v_h179), none]) (st' := [.inl 8, .inl (dt10 80 (((5380 + (4 * p1)) + 0)).toNat), .inr (.inr (some 79)), .inl v_h191]) (w' := (SH, dt192)) (fun _ => rfl) ?_
            refine go_call (Q' := _) rfl rfl rfl rfl rfl (sp_X6_weighs L xs sio (d + 3) dt192 hI193 hM197  (dt10 80 (((5380 + (4 * p1)) + 0)).toNat) ⟨by omega, by omega⟩ 8 ⟨by omega, by omega⟩ ) ?_
            rintro _ _ ⟨dt204, rfl, hI205, hF206, h203⟩
            refine ⟨rfl, ?_⟩
            have hF207 : Fr [80, 86, 87, 88, 89, 90, 91, 92, 93, 94, 95, 96, 97, 98, 99, 100] dt dt204 := Fr_tr hF195 hF206 (by decide)
            have hM208 : MW (dt204 80) := MW_fr hM197 hF206 (by decide)
            have w209 : dt204 80 0 = dt192 80 0 := hF206 80 (by decide) 0
            have w210 : dt204 80 3 = dt192 80 3 := hF206 80 (by decide) 3
            have AG211 : ∀ j, 1 ≤ j → dt204 80 j = dt 80 j := fun j hj => (hF206 80 (by decide) j).trans (AG198 j hj)
            have ES212 : dt204 87 = dt192 87 := funext (hF206 87 (by decide))
            rcases h203 with ⟨v_h203, rfl, h203r, h203⟩
            have wv213 := h203_0
            rw [WH_fa ga201] at wv213
            have ga214 : ∀ s : Nat, 1 ≤ s → s ≤ 6 → dt204 87 s = FQ (dt 80) p1 p2 p3 s := fun s a b => (hF206 87 (by decide) s).trans (ga201 s a b)
            have ve215 : VR dt204 = wend (dt 80) (dt 80 (5320 + 5 * p2.toNat)) := (VR_frS hF206 (fun k a b h_ => by simp at h_; omega)).trans ve202
            have st216 : dt204 80 0 = (DRW (DRW (dt 80 0))) := (hF206 80 (by decide) 0).trans st200
            rw [WH_con (f := dt 80) (by omega) AG198] at h203
            (try simp only [ES29, ES184, ES196, ES212] at h203)
            refine go_if (k := 1) (p1 := 155) (p2 := 151) (L' := [some (.inr (.inr (some 79))), some (.inl p1), some (.inl p2), some (.inl p3), some (.inl (dt10 80 (((5380 + (4 * p1)) + 0)).toNat)), some (.inl v_h20), some (.inl (-1)), some (.inl v_h179), none]) (st' := []) (w' := (SH, dt204)) (fun _ => rfl) (c_ge (a := v_h191) (b := v_h203) ⟨by omega, by omega⟩ ⟨by omega, by omega⟩) (fun c217 => ?_) (fun c217 => ?_)
            · skip
              refine go_to (k := 15) (pc' := 194) (L' := [some (.inr (.inr (some 79))), some (.inl p1), some (.inl p2), some (.inl p3), some (.inl (dt10 80 (((5380 + (4 * p1)) + 0)).toNat)), some (.inl v_h20), some (.inl (-1)), some (.inl v_h179), some (.inl 0)]) (st' := [.inl 0, .inl (-1), .inl v_h179, .inl p3, .inl p2, .inl p1, .inr (.inr (some 79))]) (w' := (SH, dt204)) (fun _ => rfl) ?_
              have ag219 := AG211 1 (by decide)
              have ag220 := AG211 2 (by decide)
              have ag221 := AG211 3 (by decide)
              have ag222 := AG211 4 (by decide)
              have ag223 := AG211 5 (by decide)
              refine go_call (Q' := _) rfl rfl rfl rfl rfl (sp_X6_answers_v L xs sio (d + 5) dt204 hI205 hM208  p1 ⟨by omega, by omega⟩ p2 ⟨by omega, by omega⟩ p3 ⟨by omega, by omega⟩ v_h179 ⟨by omega, by omega⟩ (-1) ⟨by omega, by omega⟩ 0 ⟨by omega, by omega⟩ (by first | trivial | omega)) ?_
              rintro _ _ ⟨dt224, rfl, hI225, hF226, h218⟩
              refine ⟨rfl, ?_⟩
              have hF227 : Fr [80, 86, 87, 88, 89, 90, 91, 92, 93, 94, 95, 96, 97, 98, 99, 100] dt dt224 := Fr_tr hF207 hF226 (by decide)
              have ES228 : dt224 87 = dt204 87 := funext (hF226 87 (by decide))
              rcases h218 with ⟨rfl, h218⟩
              have hM229 : MW (dt224 80) := h218.1
              have ga230 : ∀ s : Nat, 1 ≤ s → s ≤ 6 → dt224 87 s = FQ (dt 80) p1 p2 p3 s := fun s a b => (hF226 87 (by decide) s).trans (ga214 s a b)
              have ve231 : VR dt224 = wend (dt 80) (dt 80 (5320 + 5 * p2.toNat)) := (VR_frS hF226 (fun k a b h_ => by simp at h_; omega)).trans ve215
              refine go_ret (k := 2) (r := some (.inl v_h179)) (w1 := (SH, dt224)) (fun _ => rfl) ?_
              exact ⟨dt224, rfl, hI225, hF227, (Or.inr ⟨_, rfl, ⟨by omega, by omega⟩, ⟨by first | trivial | omega, by assumption, by simp only [*], by first | trivial | omega, by first | trivial | omega, by first | trivial | omega, by first | trivial | omega, by first | trivial | omega, by intro j h0_ h1_ h2_; exact (h218.2.2.2.2.2.2.2.1 j h1_ (by rw [(AG211 3 (by decide))]; exact h2_)).trans (AG211 j (by omega)), by rw [lw_]; unfold AKB; first | (rw [if_pos (by omega)]; exact hI) | (rw [if_neg (by omega), if_pos (by omega)]; have z_ := dv187; exact z_) | (rw [if_neg (by omega), if_neg (by omega), ← RLF_u (r := l93_6) ⟨by omega, by omega⟩ (by omega) (by omega)]; exact hI)⟩⟩)⟩
            · skip
              refine go_to (k := 8) (pc' := 166) (L' := [some (.inr (.inr (some 79))), some (.inl p1), some (.inl p2), some (.inl p3), some (.inl (dt10 80 (((5380 + (4 * p1)) + 0)).toNat)), some (.inl v_h20), some (.inl (-1)), some (.inl v_h179), some (.inl 1)]) (st' := [.inl 0, .inl p2, .inr (.inr (some 79))]) (w' := (SH, dt204)) (fun _ => rfl) ?_
              refine go_call (Q' := _) rfl rfl rfl rfl rfl (sp_X6_saysNow_f L xs sio (d + 4) dt204 hI205 hM208  p2 ⟨by omega, by omega⟩ 0 ⟨by omega, by omega⟩ ) ?_
              rintro _ _ ⟨rfl, h232⟩
              refine ⟨rfl, ?_⟩
              rcases h232 with ⟨v_h232, rfl, h232r, h232⟩
              have sn233 : v_h232 = SAID (dt 80) (p2).toNat 0 := by have z_ := h232; have f5_ : ∀ k : Nat, dt204 80 (5320 + 5 * (p2).toNat + k) = dt 80 (5320 + 5 * (p2).toNat + k) := fun k => AG211 _ (by omega); rw [ve215, f5_ 1, f5_ 2, f5_ 3, f5_ 4] at z_; rw [SAID_r (by omega)]; exact z_
              refine go_to (k := 12) (pc' := 194) (L' := [some (.inr (.inr (some 79))), some (.inl p1), some (.inl p2), some (.inl p3), some (.inl (dt10 80 (((5380 + (4 * p1)) + 0)).toNat)), some (.inl v_h20), some (.inl (-1)), some (.inl v_h232), some (.inl 1)]) (st' := [.inl 1, .inl (-1), .inl v_h232, .inl p3, .inl p2, .inl p1, .inr (.inr (some 79))]) (w' := (SH, dt204)) (fun _ => rfl) ?_
              have ag235 := AG211 1 (by decide)
              have ag236 := AG211 2 (by decide)
              have ag237 := AG211 3 (by decide)
              have ag238 := AG211 4 (by decide)
              have ag239 := AG211 5 (by decide)
              refine go_call (Q' := _) rfl rfl rfl rfl rfl (sp_X6_answers_v L xs sio (d + 5) dt204 hI205 hM208  p1 ⟨by omega, by omega⟩ p2 ⟨by omega, by omega⟩ p3 ⟨by omega, by omega⟩ v_h232 ⟨by omega, by omega⟩ (-1) ⟨by omega, by omega⟩ 1 ⟨by omega, by omega⟩ (by first | trivial | omega)) ?_
              rintro _ _ ⟨dt240, rfl, hI241, hF242, h234⟩
              refine ⟨rfl, ?_⟩
              have hF243 : Fr [80, 86, 87, 88, 89, 90, 91, 92, 93, 94, 95, 96, 97, 98, 99, 100] dt dt240 := Fr_tr hF207 hF242 (by decide)
              have ES244 : dt240 87 = dt204 87 := funext (hF242 87 (by decide))
              rcases h234 with ⟨rfl, h234⟩
              have hM245 : MW (dt240 80) := h234.1
              have ga246 : ∀ s : Nat, 1 ≤ s → s ≤ 6 → dt240 87 s = FQ (dt 80) p1 p2 p3 s := fun s a b => (hF242 87 (by decide) s).trans (ga214 s a b)
              have ve247 : VR dt240 = wend (dt 80) (dt 80 (5320 + 5 * p2.toNat)) := (VR_frS hF242 (fun k a b h_ => by simp at h_; omega)).trans ve215
              refine go_ret (k := 2) (r := some (.inl v_h232)) (w1 := (SH, dt240)) (fun _ => rfl) ?_
              exact ⟨dt240, rfl, hI241, hF243, (Or.inr ⟨_, rfl, ⟨by omega, by omega⟩, ⟨by first | trivial | omega, by assumption, by simp only [*], by first | trivial | omega, by first | trivial | omega, by first | trivial | omega, by first | trivial | omega, by first | trivial | omega, by intro j h0_ h1_ h2_; exact (h234.2.2.2.2.2.2.2.1 j h1_ (by rw [(AG211 3 (by decide))]; exact h2_)).trans (AG211 j (by omega)), by rw [lw_]; unfold AKB; first | (rw [if_pos (by omega)]; exact sn233) | (rw [if_neg (by omega), if_pos (by omega)]; have z_ := dv187; exact z_) | (rw [if_neg (by omega), if_neg (by omega), ← RLF_u (r := l93_6) ⟨by omega, by omega⟩ (by omega) (by omega)]; exact hI)⟩⟩)⟩
        · skip
          refine go_ret (k := 2) (r := some (.inl (-2))) (w1 := (SH, dt)) (fun _ => rfl) ?_
          first | exact ⟨dt, rfl, hI, hF, (Or.inl ⟨rfl, ⟨by first | trivial | omega, by exact hM, by first | rfl | (repeat rw [u2_ne (by omega)]), by first | rfl | (repeat rw [u2_ne (by omega)]), by first | rfl | (repeat rw [u2_ne (by omega)]), by first | rfl | (repeat rw [u2_ne (by omega)]), by first | rfl | (repeat rw [u2_ne (by omega)]), by first | rfl | (repeat rw [u2_ne (by omega)]), by exact fun _ => rfl⟩⟩)⟩ | exact ⟨dt, rfl, hI, hF, (Or.inr ⟨_, rfl, ⟨by omega, by omega⟩, ⟨by first | trivial | omega, by assumption, by simp only [*], by first | trivial | omega, by first | trivial | omega, by first | trivial | omega, by first | trivial | omega, by first | trivial | omega, by intro j h0_ h1_ h2_; exact ($UE j h1_ (by rw [$E3]; exact h2_)).trans ($AGq j (by omega)), by rw [lw_]; unfold AKB; first | (rw [if_pos (by omega)]; exact hI) | (rw [if_neg (by omega), if_pos (by omega)]; have z_ := hI; exact z_) | (rw [if_neg (by omega), if_neg (by omega), ← RLF_u (r := l93_6) ⟨by omega, by omega⟩ (by omega) (by omega)]; exact hI)⟩⟩)⟩
      · skip
        refine go_ret (k := 3) (r := some (.inl (-2))) (w1 := (SH, dt)) (fun _ => rfl) ?_
        first | exact ⟨dt, rfl, hI, hF, (Or.inl ⟨rfl, ⟨by first | trivial | omega, by exact hM, by first | rfl | (repeat rw [u2_ne (by omega)]), by first | rfl | (repeat rw [u2_ne (by omega)]), by first | rfl | (repeat rw [u2_ne (by omega)]), by first | rfl | (repeat rw [u2_ne (by omega)]), by first | rfl | (repeat rw [u2_ne (by omega)]), by first | rfl | (repeat rw [u2_ne (by omega)]), by exact fun _ => rfl⟩⟩)⟩ | exact ⟨dt, rfl, hI, hF, (Or.inr ⟨_, rfl, ⟨by omega, by omega⟩, ⟨by first | trivial | omega, by assumption, by simp only [*], by first | trivial | omega, by first | trivial | omega, by first | trivial | omega, by first | trivial | omega, by first | trivial | omega, by intro j h0_ h1_ h2_; exact ($UE j h1_ (by rw [$E3]; exact h2_)).trans ($AGq j (by omega)), by rw [lw_]; unfold AKB; first | (rw [if_pos (by omega)]; exact hI) | (rw [if_neg (by omega), if_pos (by omega)]; have z_ := hI; exact z_) | (rw [if_neg (by omega), if_neg (by omega), ← RLF_u (r := l93_6) ⟨by omega, by omega⟩ (by omega) (by omega)]; exact hI)⟩⟩)⟩
    · skip
      refine go_ret (k := 3) (r := some (.inl (-2))) (w1 := (SH, dt)) (fun _ => rfl) ?_
      first | exact ⟨dt, rfl, hI, hF, (Or.inl ⟨rfl, ⟨by first | trivial | omega, by exact hM, by first | rfl | (repeat rw [u2_ne (by omega)]), by first | rfl | (repeat rw [u2_ne (by omega)]), by first | rfl | (repeat rw [u2_ne (by omega)]), by first | rfl | (repeat rw [u2_ne (by omega)]), by first | rfl | (repeat rw [u2_ne (by omega)]), by first | rfl | (repeat rw [u2_ne (by omega)]), by exact fun _ => rfl⟩⟩)⟩ | exact ⟨dt, rfl, hI, hF, (Or.inr ⟨_, rfl, ⟨by omega, by omega⟩, ⟨by first | trivial | omega, by assumption, by simp only [*], by first | trivial | omega, by first | trivial | omega, by first | trivial | omega, by first | trivial | omega, by first | trivial | omega, by intro j h0_ h1_ h2_; exact ($UE j h1_ (by rw [$E3]; exact h2_)).trans ($AGq j (by omega)), by rw [lw_]; unfold AKB; first | (rw [if_pos (by omega)]; exact hI) | (rw [if_neg (by omega), if_pos (by omega)]; have z_ := hI; exact z_) | (rw [if_neg (by omega), if_neg (by omega), ← RLF_u (r := l93_6) ⟨by omega, by omega⟩ (by omega) (by omega)]; exact hI)⟩⟩)⟩
  · skip
    refine go_ret (k := 3) (r := some (.inl (-2))) (w1 := (SH, dt)) (fun _ => rfl) ?_
    first | exact ⟨dt, rfl, hI, hF, (Or.inl ⟨rfl, ⟨by first | trivial | omega, by exact hM, by first | rfl | (repeat rw [u2_ne (by omega)]), by first | rfl | (repeat rw [u2_ne (by omega)]), by first | rfl | (repeat rw [u2_ne (by omega)]), by first | rfl | (repeat rw [u2_ne (by omega)]), by first | rfl | (repeat rw [u2_ne (by omega)]), by first | rfl | (repeat rw [u2_ne (by omega)]), by exact fun _ => rfl⟩⟩)⟩ | exact ⟨dt, rfl, hI, hF, (Or.inr ⟨_, rfl, ⟨by omega, by omega⟩, ⟨by first | trivial | omega, by assumption, by simp only [*], by first | trivial | omega, by first | trivial | omega, by first | trivial | omega, by first | trivial | omega, by first | trivial | omega, by intro j h0_ h1_ h2_; exact ($UE j h1_ (by rw [$E3]; exact h2_)).trans ($AGq j (by omega)), by rw [lw_]; unfold AKB; first | (rw [if_pos (by omega)]; exact hI) | (rw [if_neg (by omega), if_pos (by omega)]; have z_ := hI; exact z_) | (rw [if_neg (by omega), if_neg (by omega), ← RLF_u (r := l93_6) ⟨by omega, by omega⟩ (by omega) (by omega)]; exact hI)⟩⟩)⟩
set_option maxHeartbeats 1500000 in
theorem chk_sp_X5_text_h (L : Nat) (xs : Nat → Int32) (sio : Option Nat) (d : Nat) (dt : Nat → Nat → Int) (hI : InvC dt) (hM : MW (dt 80))  (p1 : Int) (h_p1 : (-2147483648) ≤ p1 ∧ p1 ≤ 2147483647) (p2 : Int) (h_p2 : (-2147483648) ≤ p2 ∧ p2 ≤ 2147483647) (h_p0 : SCL (dt 2) (dt 3) (dt 80)) (h_p1 : QOC (dt 8) (dt 7 3)) : GO (am_XX L xs sio) (d + 23) 70 0 [some (.inr (.inr (some 0))), some (.inl p1), some (.inl p2), none, none, none] [] (SH, dt) (fun r w2 => ∃ dt2 : Nat → Nat → Int, w2 = (SH, dt2) ∧ InvC dt2 ∧ Fr [2, 3, 4, 5, 6, 9, 35, 37, 38, 39, 40, 41, 42, 44, 45, 46, 47, 48, 49, 50, 51, 52, 53, 54, 55, 56] dt dt2 ∧ ((∃ v : Int, r = some (.inl v) ∧ ((-1) ≤ v ∧ v ≤ 24) ∧ (dt2 35 1 = 0) ∧ (TRS p1 p2 (mB (fun j => am_and (dt 36 j) 255) (dt 35 1)) (dt 35 1).toNat v (dt2 35 2) (dt2 35 3)) ∧ (TSA p1 p2 (mB (fun j => am_and (dt 36 j) 255) (dt 35 1)) (dt 35 1).toNat (dt2 35 2) v (dt 2) (dt 3) (dt2 2) (dt2 3)) ∧ (dt2 7 3 = dt 7 3) ∧ (∀ j : Nat, dt2 8 j = dt 8 j) ∧ ((p1 = 0 ∧ (0 ≤ p2 ∧ p2 ≤ 7) ∧ dt2 35 2 = 0 → ∃ F : Nat → Int, MW F ∧ SCL (dt2 2) (dt2 3) F ∧ SAL (dt 9) (dt2 9) (dt 8) (wend F p2) p2 (dt 7 3)) ∧ (¬ (p1 = 0 ∧ (0 ≤ p2 ∧ p2 ≤ 7) ∧ dt2 35 2 = 0) → ∀ j : Nat, dt2 9 j = dt 9 j))))) := by
  have hF : Fr [2, 3, 4, 5, 6, 9, 35, 37, 38, 39, 40, 41, 42, 44, 45, 46, 47, 48, 49, 50, 51, 52, 53, 54, 55, 56] dt dt := Fr_refl
  have r1 : 0 ≤ dt 35 1 ∧ dt 35 1 ≤ 500 := InvC_get hI 35 1 rfl rfl
  have r2 : 0 ≤ dt 7 3 ∧ dt 7 3 ≤ 12 := InvC_get hI 7 3 rfl rfl
  refine go_if (k := 2) (p1 := 18) (p2 := 4) (L' := [some (.inr (.inr (some 0))), some (.inl p1), some (.inl p2), none, none, none]) (st' := []) (w' := (SH, dt)) (fun _ => rfl) (z_ne (a := p1) ⟨by omega, by omega⟩) (fun c3 => ?_) (fun c3 => ?_)
  · skip
    refine go_if (k := 5) (p1 := 38) (p2 := 25) (L' := [some (.inr (.inr (some 0))), some (.inl p1), some (.inl p2), some (.inl 0), none, none]) (st' := []) (w' := (SH, dt)) (fun _ => rfl) (c_ne (a := p1) (b := 1) ⟨by omega, by omega⟩ ⟨by omega, by omega⟩) (fun c4 => ?_) (fun c4 => ?_)
    · skip
      refine go_to (k := 7) (pc' := 56) (L' := [some (.inr (.inr (some 0))), some (.inl p1), some (.inl p2), some (.inl 0), some (.inl 0), none]) (st' := [.inr (.inr (some 1001)), .inr (.inr (some 35))]) (w' := (SH, dt)) (fun _ => rfl) ?_
      refine go_call (Q' := _) rfl rfl rfl rfl rfl (sp_X1_start_1f L xs sio (d + 15) dt hI   ) ?_
      rintro _ _ ⟨dt6, rfl, hI7, hF8, h5⟩
      refine ⟨rfl, ?_⟩
      have hF9 : Fr [2, 3, 4, 5, 6, 9, 35, 37, 38, 39, 40, 41, 42, 44, 45, 46, 47, 48, 49, 50, 51, 52, 53, 54, 55, 56] dt dt6 := Fr_tr hF hF8 (by decide)
      have w10 : dt6 7 3 = dt 7 3 := hF8 7 (by decide) 3
      rcases h5 with ⟨rfl, h5⟩
      obtain ⟨h5_0, h5_1, h5_2, h5_3, h5_4, h5_5, h5_6⟩ := h5
      have tk11 := TOK_c h5_6
      have b712 : 0 ≤ dt6 35 7 ∧ dt6 35 7 ≤ 501 := InvC_get hI7 35 7 rfl rfl
      have c13 : ∀ j : Nat, dt6 2 j = dt 2 j := fun j => (hF8 2 (by decide) j).trans ((fun _ => rfl) j)
      have c14 : ∀ j : Nat, dt6 3 j = dt 3 j := fun j => (hF8 3 (by decide) j).trans ((fun _ => rfl) j)
      have c15 : ∀ j : Nat, dt6 8 j = dt 8 j := fun j => (hF8 8 (by decide) j).trans ((fun _ => rfl) j)
      have c16 : ∀ j : Nat, dt6 9 j = dt 9 j := fun j => (hF8 9 (by decide) j).trans ((fun _ => rfl) j)
      refine go_ret (k := 6) (r := some (.inl (-1))) (w1 := (SH, dt6)) (fun _ => rfl) ?_
      exact ⟨dt6, rfl, hI7, hF9, ⟨_, rfl, ⟨by omega, by omega⟩, ⟨by first | trivial | omega, by first | exact TRS_y (by unfold okT; omega) rfl (by omega) (by omega) | exact TRS_t hI (by omega) (by unfold okT; omega) (by omega) (by omega) (by omega), by first | exact TSA_n (by omega) c13 c14 | exact TSA_v $tsa (by omega) (by omega), by first | trivial | omega, by exact c15, by first | exact ⟨fun z_ => absurd z_ (by omega), fun _ => c16⟩ | exact ⟨fun _ => ⟨_, hI.2, hI, hI⟩, fun z_ => absurd (show p1 = 0 ∧ (0 ≤ p2 ∧ p2 ≤ 7) ∧ _ from ⟨by omega, ⟨by omega, by omega⟩, by omega⟩) z_⟩⟩⟩⟩
    · skip
      refine go_to (k := 3) (pc' := 28) (L' := [some (.inr (.inr (some 0))), some (.inl p1), some (.inl p2), some (.inl 0), none, none]) (st' := [.inl 3, .inl 0, .inl p2]) (w' := (SH, dt)) (fun _ => rfl) ?_
      refine go_call (Q' := _) rfl rfl rfl rfl rfl (sp_X5_within L xs sio (d + 22) dt hI  p2 ⟨by omega, by omega⟩ 0 ⟨by omega, by omega⟩ 3 ⟨by omega, by omega⟩ ) ?_
      rintro _ _ ⟨rfl, h17⟩
      refine ⟨rfl, ?_⟩
      rcases h17 with ⟨rfl, h17⟩ | ⟨rfl, h17⟩
      · skip
        refine go_to (k := 9) (pc' := 56) (L' := [some (.inr (.inr (some 0))), some (.inl p1), some (.inl p2), some (.inl 0), some (.inl 1), none]) (st' := [.inr (.inr (some 1001)), .inr (.inr (some 35))]) (w' := (SH, dt)) (fun _ => rfl) ?_
        refine go_call (Q' := _) rfl rfl rfl rfl rfl (sp_X1_start_1f L xs sio (d + 15) dt hI   ) ?_
        rintro _ _ ⟨dt19, rfl, hI20, hF21, h18⟩
        refine ⟨rfl, ?_⟩
        have hF22 : Fr [2, 3, 4, 5, 6, 9, 35, 37, 38, 39, 40, 41, 42, 44, 45, 46, 47, 48, 49, 50, 51, 52, 53, 54, 55, 56] dt dt19 := Fr_tr hF hF21 (by decide)
        have w23 : dt19 7 3 = dt 7 3 := hF21 7 (by decide) 3
        rcases h18 with ⟨rfl, h18⟩
        obtain ⟨h18_0, h18_1, h18_2, h18_3, h18_4, h18_5, h18_6⟩ := h18
        have tk24 := TOK_c h18_6
        have b725 : 0 ≤ dt19 35 7 ∧ dt19 35 7 ≤ 501 := InvC_get hI20 35 7 rfl rfl
        have c26 : ∀ j : Nat, dt19 2 j = dt 2 j := fun j => (hF21 2 (by decide) j).trans ((fun _ => rfl) j)
        have c27 : ∀ j : Nat, dt19 3 j = dt 3 j := fun j => (hF21 3 (by decide) j).trans ((fun _ => rfl) j)
        have c28 : ∀ j : Nat, dt19 8 j = dt 8 j := fun j => (hF21 8 (by decide) j).trans ((fun _ => rfl) j)
        have c29 : ∀ j : Nat, dt19 9 j = dt 9 j := fun j => (hF21 9 (by decide) j).trans ((fun _ => rfl) j)
        refine go_to (k := 8) (pc' := 88) (L' := [some (.inr (.inr (some 0))), some (.inl p1), some (.inl p2), some (.inl 0), some (.inl 1), none]) (st' := [.inr (.inr (some 35))]) (w' := (SH, dt19)) (fun _ => rfl) ?_
        refine go_call (Q' := _) rfl rfl rfl rfl rfl (sp_X1_readLaw_f L xs sio (d + 0) dt19 hI20 (KF 1 (mB (fun j => am_and (dt 36 j) 255) (dt 35 1)) (dt 35 1).toNat) (VF (mB (fun j => am_and (dt 36 j) 255) (dt 35 1)) (dt 35 1).toNat) (SF (mB (fun j => am_and (dt 36 j) 255) (dt 35 1)) (dt 35 1).toNat) (dt19 35 7 - 1).toNat tk24.2 (by omega)  (by first | trivial | omega | exact tk24.1 | exact hI.1 | (rw [show dt19 8 = dt 8 from funext c28, show dt19 7 3 = dt 7 3 by omega]; exact h_p1)) (by first | trivial | omega | exact tk24.1 | exact hI.1 | (rw [show dt19 8 = dt 8 from funext c28, show dt19 7 3 = dt 7 3 by omega]; exact h_p1)) (by first | trivial | omega | exact tk24.1 | exact hI.1 | (rw [show dt19 8 = dt 8 from funext c28, show dt19 7 3 = dt 7 3 by omega]; exact h_p1)) (by first | trivial | omega | exact tk24.1 | exact hI.1 | (rw [show dt19 8 = dt 8 from funext c28, show dt19 7 3 = dt 7 3 by omega]; exact h_p1)) (by first | trivial | omega | exact tk24.1 | exact hI.1 | (rw [show dt19 8 = dt 8 from funext c28, show dt19 7 3 = dt 7 3 by omega]; exact h_p1)) (by first | trivial | omega | exact tk24.1 | exact hI.1 | (rw [show dt19 8 = dt 8 from funext c28, show dt19 7 3 = dt 7 3 by omega]; exact h_p1))) ?_
        rintro _ _ ⟨dt31, rfl, hI32, hF33, h30⟩
        refine ⟨rfl, ?_⟩
        have hF34 : Fr [2, 3, 4, 5, 6, 9, 35, 37, 38, 39, 40, 41, 42, 44, 45, 46, 47, 48, 49, 50, 51, 52, 53, 54, 55, 56] dt dt31 := Fr_tr hF22 hF33 (by decide)
        have w35 : dt31 7 3 = dt19 7 3 := hF33 7 (by decide) 3
        rcases h30 with ⟨v_h30, rfl, h30r, h30⟩
        obtain ⟨h30_0, h30_1, h30_2, h30_3⟩ := h30
        have c36 : ∀ j : Nat, dt31 2 j = dt 2 j := fun j => (hF33 2 (by decide) j).trans (c26 j)
        have c37 : ∀ j : Nat, dt31 3 j = dt 3 j := fun j => (hF33 3 (by decide) j).trans (c27 j)
        have c38 : ∀ j : Nat, dt31 8 j = dt 8 j := fun j => (hF33 8 (by decide) j).trans (c28 j)
        have c39 : ∀ j : Nat, dt31 9 j = dt 9 j := fun j => (hF33 9 (by decide) j).trans (c29 j)
        have r40 : (-2147483648) ≤ dt31 35 2 ∧ dt31 35 2 ≤ 2147483647 := InvC_get hI32 35 2 rfl rfl
        refine go_if (k := 5) (p1 := 105) (p2 := 103) (L' := [some (.inr (.inr (some 0))), some (.inl p1), some (.inl p2), some (.inl 0), some (.inl 1), some (.inl v_h30)]) (st' := []) (w' := (SH, dt31)) (fun _ => rfl) (z_eq (a := dt31 35 2) ⟨by omega, by omega⟩) (fun c41 => ?_) (fun c41 => ?_)
        · skip
          refine go_to (k := 8) (pc' := 142) (L' := [some (.inr (.inr (some 0))), some (.inl p1), some (.inl p2), some (.inl 0), some (.inl 1), some (.inl v_h30)]) (st' := [.inl v_h30, .inr (.inr (some 35)), .inl p2, .inr (.inr (some 1))]) (w' := (SH, dt31)) (fun _ => rfl) ?_
          refine go_call (Q' := _) rfl rfl rfl rfl rfl (sp_X0_takeLaw L xs sio (d + 20) dt31 hI32  p2 ⟨by omega, by omega⟩ v_h30 ⟨by omega, by omega⟩ ) ?_
          rintro _ _ ⟨dt43, rfl, hI44, hF45, h42⟩
          refine ⟨rfl, ?_⟩
          have hF46 : Fr [2, 3, 4, 5, 6, 9, 35, 37, 38, 39, 40, 41, 42, 44, 45, 46, 47, 48, 49, 50, 51, 52, 53, 54, 55, 56] dt dt43 := Fr_tr hF34 hF45 (by decide)
          have w47 : dt43 35 1 = dt31 35 1 := hF45 35 (by decide) 1
          have w48 : dt43 35 2 = dt31 35 2 := hF45 35 (by decide) 2
          have w49 : dt43 35 3 = dt31 35 3 := hF45 35 (by decide) 3
          have w50 : dt43 7 3 = dt31 7 3 := hF45 7 (by decide) 3
          rcases h42 with ⟨rfl, h42⟩
          have c51 : ∀ j : Nat, dt43 2 j = dt 2 j := fun j => (hF45 2 (by decide) j).trans (c36 j)
          have c52 : ∀ j : Nat, dt43 3 j = dt 3 j := fun j => (hF45 3 (by decide) j).trans (c37 j)
          have c53 : ∀ j : Nat, dt43 8 j = dt 8 j := fun j => (hF45 8 (by decide) j).trans (c38 j)
          have c54 : ∀ j : Nat, dt43 9 j = dt 9 j := fun j => (hF45 9 (by decide) j).trans (c39 j)
          refine go_ret (k := 2) (r := some (.inl v_h30)) (w1 := (SH, dt43)) (fun _ => rfl) ?_
          exact ⟨dt43, rfl, hI44, hF46, ⟨_, rfl, ⟨by omega, by omega⟩, ⟨by first | trivial | omega, by first | exact TRS_y (by unfold okT; omega) rfl (by omega) (by omega) | exact TRS_t h30_0 (by omega) (by unfold okT; omega) (by omega) (by omega) (by omega), by first | exact TSA_n (by omega) c51 c52 | exact TSA_v $tsa (by omega) (by omega), by first | trivial | omega, by exact c53, by first | exact ⟨fun z_ => absurd z_ (by omega), fun _ => c54⟩ | exact ⟨fun _ => ⟨_, hI.2, hI, hI⟩, fun z_ => absurd (show p1 = 0 ∧ (0 ≤ p2 ∧ p2 ≤ 7) ∧ _ from ⟨by omega, ⟨by omega, by omega⟩, by omega⟩) z_⟩⟩⟩⟩
        · skip
          refine go_ret (k := 2) (r := some (.inl (-1))) (w1 := (SH, dt31)) (fun _ => rfl) ?_
          exact ⟨dt31, rfl, hI32, hF34, ⟨_, rfl, ⟨by omega, by omega⟩, ⟨by first | trivial | omega, by first | exact TRS_y (by unfold okT; omega) rfl (by omega) (by omega) | exact TRS_t h30_0 (by omega) (by unfold okT; omega) (by omega) (by omega) (by omega), by first | exact TSA_n (by omega) c36 c37 | exact TSA_v $tsa (by omega) (by omega), by first | trivial | omega, by exact c38, by first | exact ⟨fun z_ => absurd z_ (by omega), fun _ => c39⟩ | exact ⟨fun _ => ⟨_, hI.2, hI, hI⟩, fun z_ => absurd (show p1 = 0 ∧ (0 ≤ p2 ∧ p2 ≤ 7) ∧ _ from ⟨by omega, ⟨by omega, by omega⟩, by omega⟩) z_⟩⟩⟩⟩
      · skip
        refine go_to (k := 8) (pc' := 56) (L' := [some (.inr (.inr (some 0))), some (.inl p1), some (.inl p2), some (.inl 0), some (.inl 0), none]) (st' := [.inr (.inr (some 1001)), .inr (.inr (some 35))]) (w' := (SH, dt)) (fun _ => rfl) ?_
        refine go_call (Q' := _) rfl rfl rfl rfl rfl (sp_X1_start_1f L xs sio (d + 15) dt hI   ) ?_
        rintro _ _ ⟨dt56, rfl, hI57, hF58, h55⟩
        refine ⟨rfl, ?_⟩
        have hF59 : Fr [2, 3, 4, 5, 6, 9, 35, 37, 38, 39, 40, 41, 42, 44, 45, 46, 47, 48, 49, 50, 51, 52, 53, 54, 55, 56] dt dt56 := Fr_tr hF hF58 (by decide)
        have w60 : dt56 7 3 = dt 7 3 := hF58 7 (by decide) 3
        rcases h55 with ⟨rfl, h55⟩
        obtain ⟨h55_0, h55_1, h55_2, h55_3, h55_4, h55_5, h55_6⟩ := h55
        have tk61 := TOK_c h55_6
        have b762 : 0 ≤ dt56 35 7 ∧ dt56 35 7 ≤ 501 := InvC_get hI57 35 7 rfl rfl
        have c63 : ∀ j : Nat, dt56 2 j = dt 2 j := fun j => (hF58 2 (by decide) j).trans ((fun _ => rfl) j)
        have c64 : ∀ j : Nat, dt56 3 j = dt 3 j := fun j => (hF58 3 (by decide) j).trans ((fun _ => rfl) j)
        have c65 : ∀ j : Nat, dt56 8 j = dt 8 j := fun j => (hF58 8 (by decide) j).trans ((fun _ => rfl) j)
        have c66 : ∀ j : Nat, dt56 9 j = dt 9 j := fun j => (hF58 9 (by decide) j).trans ((fun _ => rfl) j)
        refine go_ret (k := 6) (r := some (.inl (-1))) (w1 := (SH, dt56)) (fun _ => rfl) ?_
        exact ⟨dt56, rfl, hI57, hF59, ⟨_, rfl, ⟨by omega, by omega⟩, ⟨by first | trivial | omega, by first | exact TRS_y (by unfold okT; omega) rfl (by omega) (by omega) | exact TRS_t hI (by omega) (by unfold okT; omega) (by omega) (by omega) (by omega), by first | exact TSA_n (by omega) c63 c64 | exact TSA_v $tsa (by omega) (by omega), by first | trivial | omega, by exact c65, by first | exact ⟨fun z_ => absurd z_ (by omega), fun _ => c66⟩ | exact ⟨fun _ => ⟨_, hI.2, hI, hI⟩, fun z_ => absurd (show p1 = 0 ∧ (0 ≤ p2 ∧ p2 ≤ 7) ∧ _ from ⟨by omega, ⟨by omega, by omega⟩, by omega⟩) z_⟩⟩⟩⟩
  · skip
    refine go_to (k := 3) (pc' := 8) (L' := [some (.inr (.inr (some 0))), some (.inl p1), some (.inl p2), none, none, none]) (st' := [.inl 7, .inl 0, .inl p2]) (w' := (SH, dt)) (fun _ => rfl) ?_
    refine go_call (Q' := _) rfl rfl rfl rfl rfl (sp_X5_within L xs sio (d + 22) dt hI  p2 ⟨by omega, by omega⟩ 0 ⟨by omega, by omega⟩ 7 ⟨by omega, by omega⟩ ) ?_
    rintro _ _ ⟨rfl, h67⟩
    refine ⟨rfl, ?_⟩
    rcases h67 with ⟨rfl, h67⟩ | ⟨rfl, h67⟩
    · skip
      refine go_if (k := 7) (p1 := 38) (p2 := 25) (L' := [some (.inr (.inr (some 0))), some (.inl p1), some (.inl p2), some (.inl 1), none, none]) (st' := []) (w' := (SH, dt)) (fun _ => rfl) (c_ne (a := p1) (b := 1) ⟨by omega, by omega⟩ ⟨by omega, by omega⟩) (fun c68 => ?_) (fun c68 => ?_)
      · skip
        refine go_to (k := 8) (pc' := 56) (L' := [some (.inr (.inr (some 0))), some (.inl p1), some (.inl p2), some (.inl 1), some (.inl 0), none]) (st' := [.inr (.inr (some 1000)), .inr (.inr (some 35))]) (w' := (SH, dt)) (fun _ => rfl) ?_
        refine go_call (Q' := _) rfl rfl rfl rfl rfl (sp_X1_start_0f L xs sio (d + 15) dt hI   ) ?_
        rintro _ _ ⟨dt70, rfl, hI71, hF72, h69⟩
        refine ⟨rfl, ?_⟩
        have hF73 : Fr [2, 3, 4, 5, 6, 9, 35, 37, 38, 39, 40, 41, 42, 44, 45, 46, 47, 48, 49, 50, 51, 52, 53, 54, 55, 56] dt dt70 := Fr_tr hF hF72 (by decide)
        have w74 : dt70 7 3 = dt 7 3 := hF72 7 (by decide) 3
        rcases h69 with ⟨rfl, h69⟩
        obtain ⟨h69_0, h69_1, h69_2, h69_3, h69_4, h69_5, h69_6⟩ := h69
        have tk75 := TOK_c h69_6
        have b776 : 0 ≤ dt70 35 7 ∧ dt70 35 7 ≤ 501 := InvC_get hI71 35 7 rfl rfl
        have c77 : ∀ j : Nat, dt70 2 j = dt 2 j := fun j => (hF72 2 (by decide) j).trans ((fun _ => rfl) j)
        have c78 : ∀ j : Nat, dt70 3 j = dt 3 j := fun j => (hF72 3 (by decide) j).trans ((fun _ => rfl) j)
        have c79 : ∀ j : Nat, dt70 8 j = dt 8 j := fun j => (hF72 8 (by decide) j).trans ((fun _ => rfl) j)
        have c80 : ∀ j : Nat, dt70 9 j = dt 9 j := fun j => (hF72 9 (by decide) j).trans ((fun _ => rfl) j)
        refine go_to (k := 6) (pc' := 78) (L' := [some (.inr (.inr (some 0))), some (.inl p1), some (.inl p2), some (.inl 1), some (.inl 0), none]) (st' := [.inr (.inr (some 35))]) (w' := (SH, dt70)) (fun _ => rfl) ?_
        refine go_call (Q' := _) rfl rfl rfl rfl rfl (sp_X1_readScene_f L xs sio (d + 18) dt70 hI71 (KF 0 (mB (fun j => am_and (dt 36 j) 255) (dt 35 1)) (dt 35 1).toNat) (VF (mB (fun j => am_and (dt 36 j) 255) (dt 35 1)) (dt 35 1).toNat) (SF (mB (fun j => am_and (dt 36 j) 255) (dt 35 1)) (dt 35 1).toNat) (dt70 35 7 - 1).toNat tk75.2 (by omega)  (by first | trivial | omega | exact tk75.1 | exact hI.1 | (rw [show dt70 8 = dt 8 from funext c79, show dt70 7 3 = dt 7 3 by omega]; exact h_p1)) (by first | trivial | omega | exact tk75.1 | exact hI.1 | (rw [show dt70 8 = dt 8 from funext c79, show dt70 7 3 = dt 7 3 by omega]; exact h_p1)) (by first | trivial | omega | exact tk75.1 | exact hI.1 | (rw [show dt70 8 = dt 8 from funext c79, show dt70 7 3 = dt 7 3 by omega]; exact h_p1)) (by first | trivial | omega | exact tk75.1 | exact hI.1 | (rw [show dt70 8 = dt 8 from funext c79, show dt70 7 3 = dt 7 3 by omega]; exact h_p1)) (by first | trivial | omega | exact tk75.1 | exact hI.1 | (rw [show dt70 8 = dt 8 from funext c79, show dt70 7 3 = dt 7 3 by omega]; exact h_p1)) (by first | trivial | omega | exact tk75.1 | exact hI.1 | (rw [show dt70 8 = dt 8 from funext c79, show dt70 7 3 = dt 7 3 by omega]; exact h_p1))) ?_
        rintro _ _ ⟨dt82, rfl, hI83, hF84, h81⟩
        refine ⟨rfl, ?_⟩
        have hF85 : Fr [2, 3, 4, 5, 6, 9, 35, 37, 38, 39, 40, 41, 42, 44, 45, 46, 47, 48, 49, 50, 51, 52, 53, 54, 55, 56] dt dt82 := Fr_tr hF73 hF84 (by decide)
        have w86 : dt82 7 3 = dt70 7 3 := hF84 7 (by decide) 3
        rcases h81 with ⟨v_h81, rfl, h81r, h81⟩
        obtain ⟨h81_0, h81_1, h81_2, h81_3, h81_4⟩ := h81
        have c87 : ∀ j : Nat, dt82 2 j = dt 2 j := fun j => (hF84 2 (by decide) j).trans (c77 j)
        have c88 : ∀ j : Nat, dt82 3 j = dt 3 j := fun j => (hF84 3 (by decide) j).trans (c78 j)
        have c89 : ∀ j : Nat, dt82 8 j = dt 8 j := fun j => (hF84 8 (by decide) j).trans (c79 j)
        have c90 : ∀ j : Nat, dt82 9 j = dt 9 j := fun j => (hF84 9 (by decide) j).trans (c80 j)
        have r91 : (-2147483648) ≤ dt82 35 2 ∧ dt82 35 2 ≤ 2147483647 := InvC_get hI83 35 2 rfl rfl
        refine go_if (k := 6) (p1 := 105) (p2 := 103) (L' := [some (.inr (.inr (some 0))), some (.inl p1), some (.inl p2), some (.inl 1), some (.inl 0), some (.inl v_h81)]) (st' := []) (w' := (SH, dt82)) (fun _ => rfl) (z_eq (a := dt82 35 2) ⟨by omega, by omega⟩) (fun c92 => ?_) (fun c92 => ?_)
        · skip
          refine go_to (k := 8) (pc' := 120) (L' := [some (.inr (.inr (some 0))), some (.inl p1), some (.inl p2), some (.inl 1), some (.inl 0), some (.inl v_h81)]) (st' := [.inl v_h81, .inr (.inr (some 35)), .inl p2, .inr (.inr (some 1))]) (w' := (SH, dt82)) (fun _ => rfl) ?_
          refine go_call (Q' := _) rfl rfl rfl rfl rfl (sp_X0_takeScene_f L xs sio (d + 20) dt82 hI83  p2 ⟨by omega, by omega⟩ v_h81 ⟨by omega, by omega⟩ ) ?_
          rintro _ _ ⟨dt94, rfl, hI95, hF96, h93⟩
          refine ⟨rfl, ?_⟩
          have hF97 : Fr [2, 3, 4, 5, 6, 9, 35, 37, 38, 39, 40, 41, 42, 44, 45, 46, 47, 48, 49, 50, 51, 52, 53, 54, 55, 56] dt dt94 := Fr_tr hF85 hF96 (by decide)
          have w98 : dt94 35 1 = dt82 35 1 := hF96 35 (by decide) 1
          have w99 : dt94 35 2 = dt82 35 2 := hF96 35 (by decide) 2
          have w100 : dt94 35 3 = dt82 35 3 := hF96 35 (by decide) 3
          have w101 : dt94 7 3 = dt82 7 3 := hF96 7 (by decide) 3
          rcases h93 with ⟨rfl, h93⟩
          obtain ⟨h93_0, h93_1, h93_2, h93_3⟩ := h93
          have ts102 : TSA p1 p2 (mB (fun j => am_and (dt 36 j) 255) (dt 35 1)) (dt 35 1).toNat (dt94 35 2) v_h81 (dt 2) (dt 3) (dt94 2) (dt94 3) := TSA_y c87 c88 h93_0 h93_1 h93_2 h93_3 rfl ⟨by omega, by omega⟩ (h81_2 (by omega)) ⟨by omega, ⟨by omega, by omega⟩, by omega⟩
          have tf103 := TFS_S h_p0 hM ts102 ⟨by omega, ⟨by omega, by omega⟩, by omega⟩
          have c104 : ∀ j : Nat, dt94 8 j = dt 8 j := fun j => (hF96 8 (by decide) j).trans (c89 j)
          have c105 : ∀ j : Nat, dt94 9 j = dt 9 j := fun j => (hF96 9 (by decide) j).trans (c90 j)
          refine go_to (k := 2) (pc' := 125) (L' := [some (.inr (.inr (some 0))), some (.inl p1), some (.inl p2), some (.inl 1), some (.inl 0), some (.inl v_h81)]) (st' := [.inl p2, .inr (.inr (some 0))]) (w' := (SH, dt94)) (fun _ => rfl) ?_
          refine go_call (Q' := _) rfl rfl rfl rfl rfl (sp_X5_settleAll_f L xs sio (d + 17) dt94 hI95 (TFS (dt 80) (dt94 2) p2 v_h81) tf103.2 p2 ⟨by omega, by omega⟩ (by first | trivial | omega | exact tk75.1 | exact tf103.1 | (rw [show dt94 8 = dt 8 from funext c104, show dt94 7 3 = dt 7 3 by omega]; exact h_p1)) (by first | trivial | omega | exact tk75.1 | exact tf103.1 | (rw [show dt94 8 = dt 8 from funext c104, show dt94 7 3 = dt 7 3 by omega]; exact h_p1))) ?_
          rintro _ _ ⟨dt107, rfl, hI108, hF109, h106⟩
          refine ⟨rfl, ?_⟩
          have hF110 : Fr [2, 3, 4, 5, 6, 9, 35, 37, 38, 39, 40, 41, 42, 44, 45, 46, 47, 48, 49, 50, 51, 52, 53, 54, 55, 56] dt dt107 := Fr_tr hF97 hF109 (by decide)
          have w111 : dt107 35 1 = dt94 35 1 := hF109 35 (by decide) 1
          have w112 : dt107 35 2 = dt94 35 2 := hF109 35 (by decide) 2
          have w113 : dt107 35 3 = dt94 35 3 := hF109 35 (by decide) 3
          have w114 : dt107 7 3 = dt94 7 3 := hF109 7 (by decide) 3
          rcases h106 with ⟨rfl, h106⟩
          have ts115 := TSA_k ts102 (hF109 2 (by decide)) (hF109 3 (by decide))
          have c116 : ∀ j : Nat, dt107 8 j = dt 8 j := fun j => (hF109 8 (by decide) j).trans (c104 j)
          have sa117 := h106
          rw [show dt94 8 = dt 8 from funext (fun j => ((hF109 8 (by decide) j).symm.trans (c116 j))), show dt94 9 = dt 9 from funext c105, show dt94 7 3 = dt 7 3 by omega] at sa117
          have c118 : SCL (dt107 2) (dt107 3) (TFS (dt 80) (dt94 2) p2 v_h81) := by rw [show dt107 2 = dt94 2 from funext (hF109 2 (by decide)), show dt107 3 = dt94 3 from funext (hF109 3 (by decide))]; exact tf103.1
          refine go_ret (k := 3) (r := some (.inl v_h81)) (w1 := (SH, dt107)) (fun _ => rfl) ?_
          exact ⟨dt107, rfl, hI108, hF110, ⟨_, rfl, ⟨by omega, by omega⟩, ⟨by first | trivial | omega, by first | exact TRS_y (by unfold okT; omega) rfl (by omega) (by omega) | exact TRS_t h81_0 (by omega) (by unfold okT; omega) (by omega) (by omega) (by omega), by first | exact TSA_n (by omega) c87 c88 | exact TSA_v ts115 (by omega) (by omega), by first | trivial | omega, by exact c116, by first | exact ⟨fun z_ => absurd z_ (by omega), fun _ => c105⟩ | exact ⟨fun _ => ⟨_, tf103.2, c118, sa117⟩, fun z_ => absurd (show p1 = 0 ∧ (0 ≤ p2 ∧ p2 ≤ 7) ∧ _ from ⟨by omega, ⟨by omega, by omega⟩, by omega⟩) z_⟩⟩⟩⟩
        · skip
          refine go_ret (k := 2) (r := some (.inl (-1))) (w1 := (SH, dt82)) (fun _ => rfl) ?_
          exact ⟨dt82, rfl, hI83, hF85, ⟨_, rfl, ⟨by omega, by omega⟩, ⟨by first | trivial | omega, by first | exact TRS_y (by unfold okT; omega) rfl (by omega) (by omega) | exact TRS_t h81_0 (by omega) (by unfold okT; omega) (by omega) (by omega) (by omega), by first | exact TSA_n (by omega) c87 c88 | exact TSA_v $tsa (by omega) (by omega), by first | trivial | omega, by exact c89, by first | exact ⟨fun z_ => absurd z_ (by omega), fun _ => c90⟩ | exact ⟨fun _ => ⟨_, hI.2, hI, hI⟩, fun z_ => absurd (show p1 = 0 ∧ (0 ≤ p2 ∧ p2 ≤ 7) ∧ _ from ⟨by omega, ⟨by omega, by omega⟩, by omega⟩) z_⟩⟩⟩⟩
      · exfalso; omega
    · skip
      refine go_if (k := 6) (p1 := 38) (p2 := 25) (L' := [some (.inr (.inr (some 0))), some (.inl p1), some (.inl p2), some (.inl 0), none, none]) (st' := []) (w' := (SH, dt)) (fun _ => rfl) (c_ne (a := p1) (b := 1) ⟨by omega, by omega⟩ ⟨by omega, by omega⟩) (fun c119 => ?_) (fun c119 => ?_)
      · skip
        refine go_to (k := 7) (pc' := 56) (L' := [some (.inr (.inr (some 0))), some (.inl p1), some (.inl p2), some (.inl 0), some (.inl 0), none]) (st' := [.inr (.inr (some 1001)), .inr (.inr (some 35))]) (w' := (SH, dt)) (fun _ => rfl) ?_
        refine go_call (Q' := _) rfl rfl rfl rfl rfl (sp_X1_start_1f L xs sio (d + 15) dt hI   ) ?_
        rintro _ _ ⟨dt121, rfl, hI122, hF123, h120⟩
        refine ⟨rfl, ?_⟩
        have hF124 : Fr [2, 3, 4, 5, 6, 9, 35, 37, 38, 39, 40, 41, 42, 44, 45, 46, 47, 48, 49, 50, 51, 52, 53, 54, 55, 56] dt dt121 := Fr_tr hF hF123 (by decide)
        have w125 : dt121 7 3 = dt 7 3 := hF123 7 (by decide) 3
        rcases h120 with ⟨rfl, h120⟩
        obtain ⟨h120_0, h120_1, h120_2, h120_3, h120_4, h120_5, h120_6⟩ := h120
        have tk126 := TOK_c h120_6
        have b7127 : 0 ≤ dt121 35 7 ∧ dt121 35 7 ≤ 501 := InvC_get hI122 35 7 rfl rfl
        have c128 : ∀ j : Nat, dt121 2 j = dt 2 j := fun j => (hF123 2 (by decide) j).trans ((fun _ => rfl) j)
        have c129 : ∀ j : Nat, dt121 3 j = dt 3 j := fun j => (hF123 3 (by decide) j).trans ((fun _ => rfl) j)
        have c130 : ∀ j : Nat, dt121 8 j = dt 8 j := fun j => (hF123 8 (by decide) j).trans ((fun _ => rfl) j)
        have c131 : ∀ j : Nat, dt121 9 j = dt 9 j := fun j => (hF123 9 (by decide) j).trans ((fun _ => rfl) j)
        refine go_ret (k := 6) (r := some (.inl (-1))) (w1 := (SH, dt121)) (fun _ => rfl) ?_
        exact ⟨dt121, rfl, hI122, hF124, ⟨_, rfl, ⟨by omega, by omega⟩, ⟨by first | trivial | omega, by first | exact TRS_y (by unfold okT; omega) rfl (by omega) (by omega) | exact TRS_t hI (by omega) (by unfold okT; omega) (by omega) (by omega) (by omega), by first | exact TSA_n (by omega) c128 c129 | exact TSA_v $tsa (by omega) (by omega), by first | trivial | omega, by exact c130, by first | exact ⟨fun z_ => absurd z_ (by omega), fun _ => c131⟩ | exact ⟨fun _ => ⟨_, hI.2, hI, hI⟩, fun z_ => absurd (show p1 = 0 ∧ (0 ≤ p2 ∧ p2 ≤ 7) ∧ _ from ⟨by omega, ⟨by omega, by omega⟩, by omega⟩) z_⟩⟩⟩⟩
      · exfalso; omega
set_option maxRecDepth 20000 in
theorem chk_sp_X6_keeps_q0 (L : Nat) (xs : Nat → Int32) (sio : Option Nat) (d : Nat) (dt : Nat → Nat → Int) (hI : InvC dt) (hM : MW (dt 80))  (p1 : Int) (h_p1 : 0 ≤ p1 ∧ p1 ≤ 7) (h_p0 : dt 79 9 = 0) (h_p1 : 0 ≤ dt 79 10 ∧ dt 79 10 ≤ 24) (h_p2 : ARW (dt 82) (dt 79 10)) : GO (am_XX L xs sio) (d) 175 0 [some (.inr (.inr (some 79))), some (.inl p1), none] [] (SH, dt) (fun r w2 => ∃ dt2 : Nat → Nat → Int, w2 = (SH, dt2) ∧ InvC dt2 ∧ Fr [80] dt dt2 ∧ ((r = none ∧ (MW (dt2 80)) ∧ (dt2 80 0 = dt 80 0) ∧ (dt2 80 1 = dt 80 1) ∧ (dt2 80 2 = dt 80 2) ∧ (dt2 80 3 = dt 80 3) ∧ (dt2 80 4 = dt 80 4) ∧ (dt2 80 5 = dt 80 5) ∧ (∀ j : Nat, (j = 1 ∨ 5320 ≤ j) → dt2 80 j = dt 80 j)))) := by
  have hF : Fr [80] dt dt := Fr_refl
  have r1 : 0 ≤ dt 79 9 ∧ dt 79 9 ≤ 1 := InvC_get hI 79 9 rfl rfl
  have r2 : 0 ≤ dt 79 10 ∧ dt 79 10 ≤ 24 := InvC_get hI 79 10 rfl rfl
  refine go_if (k := 3) (p1 := 59) (p2 := 7) (L' := [some (.inr (.inr (some 79))), some (.inl p1), none]) (st' := []) (w' := (SH, dt)) (fun _ => rfl) (z_ne (a := dt 79 9) ⟨by omega, by omega⟩) (fun c3 => ?_) (fun c3 => ?_)
  · skip
    exfalso; omega
  · skip
    refine go_to (k := 7) (pc' := 19) (L' := [some (.inr (.inr (some 79))), some (.inl p1), none]) (st' := [.inl (dt 79 10), .inl (6 + p1), .inr (.inr (some 80))]) (w' := (SH, dt)) (fun _ => rfl) ?_
    have hI4 : InvC (u2 dt 80 ((6 + p1).toNat) (dt 79 10)) := InvC_u2 hI (lo := -2147483648) (hi := 2147483647) rfl rfl rfl (by omega) (by omega)
    have hF5 : Fr [80] dt (u2 dt 80 ((6 + p1).toNat) (dt 79 10)) := Fr_u2 hF (by decide)
    refine go_smp (L' := [some (.inr (.inr (some 79))), some (.inl p1), none]) (st' := []) (w' := (SH, (u2 dt 80 ((6 + p1).toNat) (dt 79 10)))) rfl rfl (s_iast (n := 7460) rfl ⟨by omega, by omega⟩ ⟨by omega, by omega⟩) ?_
    refine go_to (k := 2) (pc' := 22) (L' := [some (.inr (.inr (some 79))), some (.inl p1), some (.inl 0)]) (st' := []) (w' := (SH, (u2 dt 80 ((6 + p1).toNat) (dt 79 10)))) (fun _ => rfl) ?_
    have loop17 : ∀ (k_ : Nat) (l22_2 : Int) (dt11 : Nat → Nat → Int) (hI12 : InvC dt11) (hF13 : Fr [80] dt dt11) (i14 : 0 ≤ l22_2 ∧ l22_2 ≤ 120) (i15 : l22_2 ≤ 5 * dt 79 10) (i16 : ∀ j : Nat, dt11 80 j = K0 (dt 80) (dt 82) p1 (dt 79 10) l22_2 j), (121 - l22_2).toNat < k_ → GO (am_XX L xs sio) (d) 175 22 [some (.inr (.inr (some 79))), some (.inl p1), some (.inl l22_2)] [] (SH, dt11) (fun r w2 => ∃ dt2 : Nat → Nat → Int, w2 = (SH, dt2) ∧ InvC dt2 ∧ Fr [80] dt dt2 ∧ ((r = none ∧ (MW (dt2 80)) ∧ (dt2 80 0 = dt 80 0) ∧ (dt2 80 1 = dt 80 1) ∧ (dt2 80 2 = dt 80 2) ∧ (dt2 80 3 = dt 80 3) ∧ (dt2 80 4 = dt 80 4) ∧ (dt2 80 5 = dt 80 5) ∧ (∀ j : Nat, (j = 1 ∨ 5320 ≤ j) → dt2 80 j = dt 80 j)))) := by
      intro k_
      induction k_ with
      | zero => intro l22_2 dt11 hI12 hF13 i14 i15 i16 hm; exact absurd hm (Nat.not_lt_zero _)
      | succ k_ ih_loop17 =>
        intro l22_2 dt11 hI12 hF13 i14 i15 i16 hm
        refine go_to (k := 3) (pc' := 25) (L' := [some (.inr (.inr (some 79))), some (.inl p1), some (.inl l22_2)]) (st' := [.inr (.inr (some 79)), .inl 5, .inl l22_2]) (w' := (SH, dt11)) (fun _ => rfl) ?_
        refine go_smp (L' := [some (.inr (.inr (some 79))), some (.inl p1), some (.inl l22_2)]) (st' := [.inl (dt 79 10), .inl 5, .inl l22_2]) (w' := (SH, dt11)) rfl rfl (s_gfc rfl rfl rfl (hF13 79 (by decide) 10)) ?_
        refine go_if (k := 2) (p1 := 58) (p2 := 32) (L' := [some (.inr (.inr (some 79))), some (.inl p1), some (.inl l22_2)]) (st' := []) (w' := (SH, dt11)) (fun _ => rfl) (c_ge (a := l22_2) (b := 5 * (dt 79 10)) ⟨by omega, by omega⟩ ⟨by omega, by omega⟩) (fun c18 => ?_) (fun c18 => ?_)
        · skip
          refine go_ret (k := 1) (r := none) (w1 := (SH, dt11)) (fun _ => rfl) ?_
          exact ⟨dt11, rfl, hI12, hF13, ⟨rfl, ⟨by exact MW_K0 hM (by assumption) (by omega) (by omega) (by assumption) (by omega), by exact K0_lo (by assumption) (by omega) 0 (by decide), by exact K0_lo (by assumption) (by omega) 1 (by decide), by exact K0_lo (by assumption) (by omega) 2 (by decide), by exact K0_lo (by assumption) (by omega) 3 (by decide), by exact K0_lo (by assumption) (by omega) 4 (by decide), by exact K0_lo (by assumption) (by omega) 5 (by decide), by exact K0_q (by assumption) (by omega) (by omega)⟩⟩⟩
        · skip
          refine go_to (k := 12) (pc' := 50) (L' := [some (.inr (.inr (some 79))), some (.inl p1), some (.inl l22_2)]) (st' := [.inl l22_2, .inr (.inr (some 82)), .inl ((14 + (120 * p1)) + l22_2), .inr (.inr (some 80))]) (w' := (SH, dt11)) (fun _ => rfl) ?_
          have r19 : (-2147483648) ≤ dt 82 (l22_2).toNat ∧ dt 82 (l22_2).toNat ≤ 2147483647 := InvC_get hI 82 (l22_2).toNat rfl rfl
          refine go_smp (L' := [some (.inr (.inr (some 79))), some (.inl p1), some (.inl l22_2)]) (st' := [.inl (dt 82 (l22_2).toNat), .inl ((14 + (120 * p1)) + l22_2), .inr (.inr (some 80))]) (w' := (SH, dt11)) rfl rfl (s_ev (s_iald (n := 120) (f := dt11 82) rfl ⟨by omega, by omega⟩) (hF13 82 (by decide) _)) ?_
          have hI20 : InvC (u2 dt11 80 (((14 + (120 * p1)) + l22_2).toNat) (dt 82 (l22_2).toNat)) := InvC_u2 hI12 (lo := -2147483648) (hi := 2147483647) rfl rfl rfl (by omega) (by omega)
          have hF21 : Fr [80] dt (u2 dt11 80 (((14 + (120 * p1)) + l22_2).toNat) (dt 82 (l22_2).toNat)) := Fr_u2 hF13 (by decide)
          refine go_smp (L' := [some (.inr (.inr (some 79))), some (.inl p1), some (.inl l22_2)]) (st' := []) (w' := (SH, (u2 dt11 80 (((14 + (120 * p1)) + l22_2).toNat) (dt 82 (l22_2).toNat)))) rfl rfl (s_iast (n := 7460) rfl ⟨by omega, by omega⟩ ⟨by omega, by omega⟩) ?_
          refine go_to (k := 2) (pc' := 22) (L' := [some (.inr (.inr (some 79))), some (.inl p1), some (.inl (l22_2 + 1))]) (st' := []) (w' := (SH, (u2 dt11 80 (((14 + (120 * p1)) + l22_2).toNat) (dt 82 (l22_2).toNat)))) (fun _ => rfl) ?_
          exact GO.le (ih_loop17 (l22_2 + 1) (u2 dt11 80 (((14 + (120 * p1)) + l22_2).toNat) (dt 82 (l22_2).toNat)) hI20 hF21 (by first | omega | exact K0_0 (by omega) | exact K0_s (by assumption) (by omega) (by omega) rfl) (by first | omega | exact K0_0 (by omega) | exact K0_s (by assumption) (by omega) (by omega) rfl) (by first | omega | exact K0_0 (by omega) | exact K0_s (by assumption) (by omega) (by omega) rfl) (by omega)) ⟨.inl rfl, .inl rfl, .inl rfl, trivial⟩
    exact GO.le (loop17 _ 0 (u2 dt 80 ((6 + p1).toNat) (dt 79 10)) hI4 hF5 (by first | omega | exact K0_0 (by omega) | exact K0_s (by assumption) (by omega) (by omega) rfl) (by first | omega | exact K0_0 (by omega) | exact K0_s (by assumption) (by omega) (by omega) rfl) (by first | omega | exact K0_0 (by omega) | exact K0_s (by assumption) (by omega) (by omega) rfl) (Nat.lt_succ_self _)) ⟨.inl rfl, .inl rfl, .inl rfl, trivial⟩
set_option maxRecDepth 20000 in
theorem chk_sp_X6_keeps_q1 (L : Nat) (xs : Nat → Int32) (sio : Option Nat) (d : Nat) (dt : Nat → Nat → Int) (hI : InvC dt) (hM : MW (dt 80))  (p1 : Int) (h_p1 : 0 ≤ p1 ∧ p1 ≤ 3) (h_p0 : dt 79 9 = 1) (h_p1 : 0 ≤ dt 79 10 ∧ dt 79 10 ≤ 16) (h_p2 : 0 ≤ dt 79 11 ∧ dt 79 11 ≤ 510) (h_p3 : LRW (dt 83) (dt 84) (dt 79 10) (dt 79 11)) : GO (am_XX L xs sio) (d) 175 0 [some (.inr (.inr (some 79))), some (.inl p1), none] [] (SH, dt) (fun r w2 => ∃ dt2 : Nat → Nat → Int, w2 = (SH, dt2) ∧ InvC dt2 ∧ Fr [80] dt dt2 ∧ ((r = none ∧ (MW (dt2 80)) ∧ (dt2 80 0 = dt 80 0) ∧ (dt2 80 1 = dt 80 1) ∧ (dt2 80 2 = dt 80 2) ∧ (dt2 80 3 = dt 80 3) ∧ (dt2 80 4 = dt 80 4) ∧ (dt2 80 5 = dt 80 5) ∧ (∀ j : Nat, (j = 1 ∨ 5320 ≤ j) → dt2 80 j = dt 80 j)))) := by
  have hF : Fr [80] dt dt := Fr_refl
  have r1 : 0 ≤ dt 79 9 ∧ dt 79 9 ≤ 1 := InvC_get hI 79 9 rfl rfl
  have r2 : 0 ≤ dt 79 10 ∧ dt 79 10 ≤ 24 := InvC_get hI 79 10 rfl rfl
  have r3 : 0 ≤ dt 79 11 ∧ dt 79 11 ≤ 510 := InvC_get hI 79 11 rfl rfl
  refine go_if (k := 3) (p1 := 59) (p2 := 7) (L' := [some (.inr (.inr (some 79))), some (.inl p1), none]) (st' := []) (w' := (SH, dt)) (fun _ => rfl) (z_ne (a := dt 79 9) ⟨by omega, by omega⟩) (fun c4 => ?_) (fun c4 => ?_)
  · skip
    refine go_to (k := 7) (pc' := 72) (L' := [some (.inr (.inr (some 79))), some (.inl p1), none]) (st' := [.inl (dt 79 10), .inl (974 + p1), .inr (.inr (some 80))]) (w' := (SH, dt)) (fun _ => rfl) ?_
    have hI5 : InvC (u2 dt 80 ((974 + p1).toNat) (dt 79 10)) := InvC_u2 hI (lo := -2147483648) (hi := 2147483647) rfl rfl rfl (by omega) (by omega)
    have hF6 : Fr [80] dt (u2 dt 80 ((974 + p1).toNat) (dt 79 10)) := Fr_u2 hF (by decide)
    refine go_smp (L' := [some (.inr (.inr (some 79))), some (.inl p1), none]) (st' := []) (w' := (SH, (u2 dt 80 ((974 + p1).toNat) (dt 79 10)))) rfl rfl (s_iast (n := 7460) rfl ⟨by omega, by omega⟩ ⟨by omega, by omega⟩) ?_
    refine go_to (k := 2) (pc' := 75) (L' := [some (.inr (.inr (some 79))), some (.inl p1), some (.inl 0)]) (st' := []) (w' := (SH, (u2 dt 80 ((974 + p1).toNat) (dt 79 10)))) (fun _ => rfl) ?_
    have loop27 : ∀ (k_ : Nat) (l75_2 : Int) (dt21 : Nat → Nat → Int) (hI22 : InvC dt21) (hF23 : Fr [80] dt dt21) (i24 : 0 ≤ l75_2 ∧ l75_2 ≤ 16) (i25 : l75_2 ≤ dt 79 10) (i26 : ∀ j : Nat, dt21 80 j = K1 (dt 80) (dt 83) p1 (dt 79 10) l75_2 j), (17 - l75_2).toNat < k_ → GO (am_XX L xs sio) (d) 175 75 [some (.inr (.inr (some 79))), some (.inl p1), some (.inl l75_2)] [] (SH, dt21) (fun r w2 => ∃ dt2 : Nat → Nat → Int, w2 = (SH, dt2) ∧ InvC dt2 ∧ Fr [80] dt dt2 ∧ ((r = none ∧ (MW (dt2 80)) ∧ (dt2 80 0 = dt 80 0) ∧ (dt2 80 1 = dt 80 1) ∧ (dt2 80 2 = dt 80 2) ∧ (dt2 80 3 = dt 80 3) ∧ (dt2 80 4 = dt 80 4) ∧ (dt2 80 5 = dt 80 5) ∧ (∀ j : Nat, (j = 1 ∨ 5320 ≤ j) → dt2 80 j = dt 80 j)))) := by
      intro k_
      induction k_ with
      | zero => intro l75_2 dt21 hI22 hF23 i24 i25 i26 hm; exact absurd hm (Nat.not_lt_zero _)
      | succ k_ ih_loop27 =>
        intro l75_2 dt21 hI22 hF23 i24 i25 i26 hm
        refine go_to (k := 2) (pc' := 77) (L' := [some (.inr (.inr (some 79))), some (.inl p1), some (.inl l75_2)]) (st' := [.inr (.inr (some 79)), .inl l75_2]) (w' := (SH, dt21)) (fun _ => rfl) ?_
        refine go_smp (L' := [some (.inr (.inr (some 79))), some (.inl p1), some (.inl l75_2)]) (st' := [.inl (dt 79 10), .inl l75_2]) (w' := (SH, dt21)) rfl rfl (s_gfc rfl rfl rfl (hF23 79 (by decide) 10)) ?_
        refine go_if (k := 1) (p1 := 187) (p2 := 83) (L' := [some (.inr (.inr (some 79))), some (.inl p1), some (.inl l75_2)]) (st' := []) (w' := (SH, dt21)) (fun _ => rfl) (c_ge (a := l75_2) (b := dt 79 10) ⟨by omega, by omega⟩ ⟨by omega, by omega⟩) (fun c28 => ?_) (fun c28 => ?_)
        · skip
          refine go_to (k := 2) (pc' := 189) (L' := [some (.inr (.inr (some 79))), some (.inl p1), some (.inl 0)]) (st' := []) (w' := (SH, dt21)) (fun _ => rfl) ?_
          have loop40 : ∀ (k_ : Nat) (l189_2 : Int) (dt34 : Nat → Nat → Int) (hI35 : InvC dt34) (hF36 : Fr [80] dt dt34) (i37 : 0 ≤ l189_2 ∧ l189_2 ≤ 1020) (i38 : l189_2 ≤ 2 * dt 79 11) (i39 : ∀ j : Nat, dt34 80 j = K2 (K1 (dt 80) (dt 83) p1 (dt 79 10) l75_2) (dt 84) p1 l189_2 j), (1021 - l189_2).toNat < k_ → GO (am_XX L xs sio) (d) 175 189 [some (.inr (.inr (some 79))), some (.inl p1), some (.inl l189_2)] [] (SH, dt34) (fun r w2 => ∃ dt2 : Nat → Nat → Int, w2 = (SH, dt2) ∧ InvC dt2 ∧ Fr [80] dt dt2 ∧ ((r = none ∧ (MW (dt2 80)) ∧ (dt2 80 0 = dt 80 0) ∧ (dt2 80 1 = dt 80 1) ∧ (dt2 80 2 = dt 80 2) ∧ (dt2 80 3 = dt 80 3) ∧ (dt2 80 4 = dt 80 4) ∧ (dt2 80 5 = dt 80 5) ∧ (∀ j : Nat, (j = 1 ∨ 5320 ≤ j) → dt2 80 j = dt 80 j)))) := by
            intro k_
            induction k_ with
            | zero => intro l189_2 dt34 hI35 hF36 i37 i38 i39 hm; exact absurd hm (Nat.not_lt_zero _)
            | succ k_ ih_loop40 =>
              intro l189_2 dt34 hI35 hF36 i37 i38 i39 hm
              refine go_to (k := 3) (pc' := 192) (L' := [some (.inr (.inr (some 79))), some (.inl p1), some (.inl l189_2)]) (st' := [.inr (.inr (some 79)), .inl 2, .inl l189_2]) (w' := (SH, dt34)) (fun _ => rfl) ?_
              refine go_smp (L' := [some (.inr (.inr (some 79))), some (.inl p1), some (.inl l189_2)]) (st' := [.inl (dt 79 11), .inl 2, .inl l189_2]) (w' := (SH, dt34)) rfl rfl (s_gfc rfl rfl rfl (hF36 79 (by decide) 11)) ?_
              refine go_if (k := 2) (p1 := 227) (p2 := 199) (L' := [some (.inr (.inr (some 79))), some (.inl p1), some (.inl l189_2)]) (st' := []) (w' := (SH, dt34)) (fun _ => rfl) (c_ge (a := l189_2) (b := 2 * (dt 79 11)) ⟨by omega, by omega⟩ ⟨by omega, by omega⟩) (fun c41 => ?_) (fun c41 => ?_)
              · skip
                refine go_ret (k := 1) (r := none) (w1 := (SH, dt34)) (fun _ => rfl) ?_
                exact ⟨dt34, rfl, hI35, hF36, ⟨rfl, ⟨by exact MW_K1 hM (by assumption) (by omega) (by omega) (by omega) (by assumption) (by omega) (by omega), by exact K2_lo (by assumption) (by omega) 0 (by decide), by exact K2_lo (by assumption) (by omega) 1 (by decide), by exact K2_lo (by assumption) (by omega) 2 (by decide), by exact K2_lo (by assumption) (by omega) 3 (by decide), by exact K2_lo (by assumption) (by omega) 4 (by decide), by exact K2_lo (by assumption) (by omega) 5 (by decide), by exact K2_q (by assumption) (by omega) (by omega) (by omega)⟩⟩⟩
              · skip
                refine go_to (k := 12) (pc' := 219) (L' := [some (.inr (.inr (some 79))), some (.inl p1), some (.inl l189_2)]) (st' := [.inl l189_2, .inr (.inr (some 84)), .inl ((1240 + (1020 * p1)) + l189_2), .inr (.inr (some 80))]) (w' := (SH, dt34)) (fun _ => rfl) ?_
                have r42 : (-2147483648) ≤ dt 84 (l189_2).toNat ∧ dt 84 (l189_2).toNat ≤ 2147483647 := InvC_get hI 84 (l189_2).toNat rfl rfl
                refine go_smp (L' := [some (.inr (.inr (some 79))), some (.inl p1), some (.inl l189_2)]) (st' := [.inl (dt 84 (l189_2).toNat), .inl ((1240 + (1020 * p1)) + l189_2), .inr (.inr (some 80))]) (w' := (SH, dt34)) rfl rfl (s_ev (s_iald (n := 1020) (f := dt34 84) rfl ⟨by omega, by omega⟩) (hF36 84 (by decide) _)) ?_
                have hI43 : InvC (u2 dt34 80 (((1240 + (1020 * p1)) + l189_2).toNat) (dt 84 (l189_2).toNat)) := InvC_u2 hI35 (lo := -2147483648) (hi := 2147483647) rfl rfl rfl (by omega) (by omega)
                have hF44 : Fr [80] dt (u2 dt34 80 (((1240 + (1020 * p1)) + l189_2).toNat) (dt 84 (l189_2).toNat)) := Fr_u2 hF36 (by decide)
                refine go_smp (L' := [some (.inr (.inr (some 79))), some (.inl p1), some (.inl l189_2)]) (st' := []) (w' := (SH, (u2 dt34 80 (((1240 + (1020 * p1)) + l189_2).toNat) (dt 84 (l189_2).toNat)))) rfl rfl (s_iast (n := 7460) rfl ⟨by omega, by omega⟩ ⟨by omega, by omega⟩) ?_
                refine go_to (k := 2) (pc' := 189) (L' := [some (.inr (.inr (some 79))), some (.inl p1), some (.inl (l189_2 + 1))]) (st' := []) (w' := (SH, (u2 dt34 80 (((1240 + (1020 * p1)) + l189_2).toNat) (dt 84 (l189_2).toNat)))) (fun _ => rfl) ?_
                exact GO.le (ih_loop40 (l189_2 + 1) (u2 dt34 80 (((1240 + (1020 * p1)) + l189_2).toNat) (dt 84 (l189_2).toNat)) hI43 hF44 (by first | omega | exact K2_0 (by assumption) (by omega) | exact K2_s (by assumption) (by omega) (by omega) rfl) (by first | omega | exact K2_0 (by assumption) (by omega) | exact K2_s (by assumption) (by omega) (by omega) rfl) (by first | omega | exact K2_0 (by assumption) (by omega) | exact K2_s (by assumption) (by omega) (by omega) rfl) (by omega)) ⟨.inl rfl, .inl rfl, .inl rfl, trivial⟩
          exact GO.le (loop40 _ 0 dt21 hI22 hF23 (by first | omega | exact K2_0 (by assumption) (by omega) | exact K2_s (by assumption) (by omega) (by omega) rfl) (by first | omega | exact K2_0 (by assumption) (by omega) | exact K2_s (by assumption) (by omega) (by omega) rfl) (by first | omega | exact K2_0 (by assumption) (by omega) | exact K2_s (by assumption) (by omega) (by omega) rfl) (Nat.lt_succ_self _)) ⟨.inl rfl, .inl rfl, .inl rfl, trivial⟩
        · skip
          refine go_to (k := 14) (pc' := 104) (L' := [some (.inr (.inr (some 79))), some (.inl p1), some (.inl l75_2)]) (st' := [.inl (4 * l75_2), .inr (.inr (some 83)), .inl ((978 + (16 * p1)) + l75_2), .inr (.inr (some 80))]) (w' := (SH, dt21)) (fun _ => rfl) ?_
          have r45 : (-2147483648) ≤ dt 83 ((4 * l75_2).toNat) ∧ dt 83 ((4 * l75_2).toNat) ≤ 2147483647 := InvC_get hI 83 ((4 * l75_2).toNat) rfl rfl
          refine go_smp (L' := [some (.inr (.inr (some 79))), some (.inl p1), some (.inl l75_2)]) (st' := [.inl (dt 83 ((4 * l75_2).toNat)), .inl ((978 + (16 * p1)) + l75_2), .inr (.inr (some 80))]) (w' := (SH, dt21)) rfl rfl (s_ev (s_iald (n := 64) (f := dt21 83) rfl ⟨by omega, by omega⟩) (hF23 83 (by decide) _)) ?_
          have hI46 : InvC (u2 dt21 80 (((978 + (16 * p1)) + l75_2).toNat) (dt 83 ((4 * l75_2).toNat))) := InvC_u2 hI22 (lo := -2147483648) (hi := 2147483647) rfl rfl rfl (by omega) (by omega)
          have hF47 : Fr [80] dt (u2 dt21 80 (((978 + (16 * p1)) + l75_2).toNat) (dt 83 ((4 * l75_2).toNat))) := Fr_u2 hF23 (by decide)
          refine go_smp (L' := [some (.inr (.inr (some 79))), some (.inl p1), some (.inl l75_2)]) (st' := []) (w' := (SH, (u2 dt21 80 (((978 + (16 * p1)) + l75_2).toNat) (dt 83 ((4 * l75_2).toNat))))) rfl rfl (s_iast (n := 7460) rfl ⟨by omega, by omega⟩ ⟨by omega, by omega⟩) ?_
          refine go_to (k := 16) (pc' := 129) (L' := [some (.inr (.inr (some 79))), some (.inl p1), some (.inl l75_2)]) (st' := [.inl ((4 * l75_2) + 1), .inr (.inr (some 83)), .inl ((1042 + (16 * p1)) + l75_2), .inr (.inr (some 80))]) (w' := (SH, (u2 dt21 80 (((978 + (16 * p1)) + l75_2).toNat) (dt 83 ((4 * l75_2).toNat))))) (fun _ => rfl) ?_
          have r48 : (-2147483648) ≤ dt 83 (((4 * l75_2) + 1).toNat) ∧ dt 83 (((4 * l75_2) + 1).toNat) ≤ 2147483647 := InvC_get hI 83 (((4 * l75_2) + 1).toNat) rfl rfl
          refine go_smp (L' := [some (.inr (.inr (some 79))), some (.inl p1), some (.inl l75_2)]) (st' := [.inl (dt 83 (((4 * l75_2) + 1).toNat)), .inl ((1042 + (16 * p1)) + l75_2), .inr (.inr (some 80))]) (w' := (SH, (u2 dt21 80 (((978 + (16 * p1)) + l75_2).toNat) (dt 83 ((4 * l75_2).toNat))))) rfl rfl (s_ev (s_iald (n := 64) (f := (u2 dt21 80 (((978 + (16 * p1)) + l75_2).toNat) (dt 83 ((4 * l75_2).toNat))) 83) rfl ⟨by omega, by omega⟩) (hF47 83 (by decide) _)) ?_
          have hI49 : InvC (u2 (u2 dt21 80 (((978 + (16 * p1)) + l75_2).toNat) (dt 83 ((4 * l75_2).toNat))) 80 (((1042 + (16 * p1)) + l75_2).toNat) (dt 83 (((4 * l75_2) + 1).toNat))) := InvC_u2 hI46 (lo := -2147483648) (hi := 2147483647) rfl rfl rfl (by omega) (by omega)
          have hF50 : Fr [80] dt (u2 (u2 dt21 80 (((978 + (16 * p1)) + l75_2).toNat) (dt 83 ((4 * l75_2).toNat))) 80 (((1042 + (16 * p1)) + l75_2).toNat) (dt 83 (((4 * l75_2) + 1).toNat))) := Fr_u2 hF47 (by decide)
          refine go_smp (L' := [some (.inr (.inr (some 79))), some (.inl p1), some (.inl l75_2)]) (st' := []) (w' := (SH, (u2 (u2 dt21 80 (((978 + (16 * p1)) + l75_2).toNat) (dt 83 ((4 * l75_2).toNat))) 80 (((1042 + (16 * p1)) + l75_2).toNat) (dt 83 (((4 * l75_2) + 1).toNat))))) rfl rfl (s_iast (n := 7460) rfl ⟨by omega, by omega⟩ ⟨by omega, by omega⟩) ?_
          refine go_to (k := 16) (pc' := 154) (L' := [some (.inr (.inr (some 79))), some (.inl p1), some (.inl l75_2)]) (st' := [.inl ((4 * l75_2) + 2), .inr (.inr (some 83)), .inl ((1106 + (16 * p1)) + l75_2), .inr (.inr (some 80))]) (w' := (SH, (u2 (u2 dt21 80 (((978 + (16 * p1)) + l75_2).toNat) (dt 83 ((4 * l75_2).toNat))) 80 (((1042 + (16 * p1)) + l75_2).toNat) (dt 83 (((4 * l75_2) + 1).toNat))))) (fun _ => rfl) ?_
          have r51 : (-2147483648) ≤ dt 83 (((4 * l75_2) + 2).toNat) ∧ dt 83 (((4 * l75_2) + 2).toNat) ≤ 2147483647 := InvC_get hI 83 (((4 * l75_2) + 2).toNat) rfl rfl
          refine go_smp (L' := [some (.inr (.inr (some 79))), some (.inl p1), some (.inl l75_2)]) (st' := [.inl (dt 83 (((4 * l75_2) + 2).toNat)), .inl ((1106 + (16 * p1)) + l75_2), .inr (.inr (some 80))]) (w' := (SH, (u2 (u2 dt21 80 (((978 + (16 * p1)) + l75_2).toNat) (dt 83 ((4 * l75_2).toNat))) 80 (((1042 + (16 * p1)) + l75_2).toNat) (dt 83 (((4 * l75_2) + 1).toNat))))) rfl rfl (s_ev (s_iald (n := 64) (f := (u2 (u2 dt21 80 (((978 + (16 * p1)) + l75_2).toNat) (dt 83 ((4 * l75_2).toNat))) 80 (((1042 + (16 * p1)) + l75_2).toNat) (dt 83 (((4 * l75_2) + 1).toNat))) 83) rfl ⟨by omega, by omega⟩) (hF50 83 (by decide) _)) ?_
          have hI52 : InvC (u2 (u2 (u2 dt21 80 (((978 + (16 * p1)) + l75_2).toNat) (dt 83 ((4 * l75_2).toNat))) 80 (((1042 + (16 * p1)) + l75_2).toNat) (dt 83 (((4 * l75_2) + 1).toNat))) 80 (((1106 + (16 * p1)) + l75_2).toNat) (dt 83 (((4 * l75_2) + 2).toNat))) := InvC_u2 hI49 (lo := -2147483648) (hi := 2147483647) rfl rfl rfl (by omega) (by omega)
          have hF53 : Fr [80] dt (u2 (u2 (u2 dt21 80 (((978 + (16 * p1)) + l75_2).toNat) (dt 83 ((4 * l75_2).toNat))) 80 (((1042 + (16 * p1)) + l75_2).toNat) (dt 83 (((4 * l75_2) + 1).toNat))) 80 (((1106 + (16 * p1)) + l75_2).toNat) (dt 83 (((4 * l75_2) + 2).toNat))) := Fr_u2 hF50 (by decide)
          refine go_smp (L' := [some (.inr (.inr (some 79))), some (.inl p1), some (.inl l75_2)]) (st' := []) (w' := (SH, (u2 (u2 (u2 dt21 80 (((978 + (16 * p1)) + l75_2).toNat) (dt 83 ((4 * l75_2).toNat))) 80 (((1042 + (16 * p1)) + l75_2).toNat) (dt 83 (((4 * l75_2) + 1).toNat))) 80 (((1106 + (16 * p1)) + l75_2).toNat) (dt 83 (((4 * l75_2) + 2).toNat))))) rfl rfl (s_iast (n := 7460) rfl ⟨by omega, by omega⟩ ⟨by omega, by omega⟩) ?_
          refine go_to (k := 16) (pc' := 179) (L' := [some (.inr (.inr (some 79))), some (.inl p1), some (.inl l75_2)]) (st' := [.inl ((4 * l75_2) + 3), .inr (.inr (some 83)), .inl ((1170 + (16 * p1)) + l75_2), .inr (.inr (some 80))]) (w' := (SH, (u2 (u2 (u2 dt21 80 (((978 + (16 * p1)) + l75_2).toNat) (dt 83 ((4 * l75_2).toNat))) 80 (((1042 + (16 * p1)) + l75_2).toNat) (dt 83 (((4 * l75_2) + 1).toNat))) 80 (((1106 + (16 * p1)) + l75_2).toNat) (dt 83 (((4 * l75_2) + 2).toNat))))) (fun _ => rfl) ?_
          have r54 : (-2147483648) ≤ dt 83 (((4 * l75_2) + 3).toNat) ∧ dt 83 (((4 * l75_2) + 3).toNat) ≤ 2147483647 := InvC_get hI 83 (((4 * l75_2) + 3).toNat) rfl rfl
          refine go_smp (L' := [some (.inr (.inr (some 79))), some (.inl p1), some (.inl l75_2)]) (st' := [.inl (dt 83 (((4 * l75_2) + 3).toNat)), .inl ((1170 + (16 * p1)) + l75_2), .inr (.inr (some 80))]) (w' := (SH, (u2 (u2 (u2 dt21 80 (((978 + (16 * p1)) + l75_2).toNat) (dt 83 ((4 * l75_2).toNat))) 80 (((1042 + (16 * p1)) + l75_2).toNat) (dt 83 (((4 * l75_2) + 1).toNat))) 80 (((1106 + (16 * p1)) + l75_2).toNat) (dt 83 (((4 * l75_2) + 2).toNat))))) rfl rfl (s_ev (s_iald (n := 64) (f := (u2 (u2 (u2 dt21 80 (((978 + (16 * p1)) + l75_2).toNat) (dt 83 ((4 * l75_2).toNat))) 80 (((1042 + (16 * p1)) + l75_2).toNat) (dt 83 (((4 * l75_2) + 1).toNat))) 80 (((1106 + (16 * p1)) + l75_2).toNat) (dt 83 (((4 * l75_2) + 2).toNat))) 83) rfl ⟨by omega, by omega⟩) (hF53 83 (by decide) _)) ?_
          have hI55 : InvC (u2 (u2 (u2 (u2 dt21 80 (((978 + (16 * p1)) + l75_2).toNat) (dt 83 ((4 * l75_2).toNat))) 80 (((1042 + (16 * p1)) + l75_2).toNat) (dt 83 (((4 * l75_2) + 1).toNat))) 80 (((1106 + (16 * p1)) + l75_2).toNat) (dt 83 (((4 * l75_2) + 2).toNat))) 80 (((1170 + (16 * p1)) + l75_2).toNat) (dt 83 (((4 * l75_2) + 3).toNat))) := InvC_u2 hI52 (lo := -2147483648) (hi := 2147483647) rfl rfl rfl (by omega) (by omega)
          have hF56 : Fr [80] dt (u2 (u2 (u2 (u2 dt21 80 (((978 + (16 * p1)) + l75_2).toNat) (dt 83 ((4 * l75_2).toNat))) 80 (((1042 + (16 * p1)) + l75_2).toNat) (dt 83 (((4 * l75_2) + 1).toNat))) 80 (((1106 + (16 * p1)) + l75_2).toNat) (dt 83 (((4 * l75_2) + 2).toNat))) 80 (((1170 + (16 * p1)) + l75_2).toNat) (dt 83 (((4 * l75_2) + 3).toNat))) := Fr_u2 hF53 (by decide)
          refine go_smp (L' := [some (.inr (.inr (some 79))), some (.inl p1), some (.inl l75_2)]) (st' := []) (w' := (SH, (u2 (u2 (u2 (u2 dt21 80 (((978 + (16 * p1)) + l75_2).toNat) (dt 83 ((4 * l75_2).toNat))) 80 (((1042 + (16 * p1)) + l75_2).toNat) (dt 83 (((4 * l75_2) + 1).toNat))) 80 (((1106 + (16 * p1)) + l75_2).toNat) (dt 83 (((4 * l75_2) + 2).toNat))) 80 (((1170 + (16 * p1)) + l75_2).toNat) (dt 83 (((4 * l75_2) + 3).toNat))))) rfl rfl (s_iast (n := 7460) rfl ⟨by omega, by omega⟩ ⟨by omega, by omega⟩) ?_
          refine go_to (k := 2) (pc' := 75) (L' := [some (.inr (.inr (some 79))), some (.inl p1), some (.inl (l75_2 + 1))]) (st' := []) (w' := (SH, (u2 (u2 (u2 (u2 dt21 80 (((978 + (16 * p1)) + l75_2).toNat) (dt 83 ((4 * l75_2).toNat))) 80 (((1042 + (16 * p1)) + l75_2).toNat) (dt 83 (((4 * l75_2) + 1).toNat))) 80 (((1106 + (16 * p1)) + l75_2).toNat) (dt 83 (((4 * l75_2) + 2).toNat))) 80 (((1170 + (16 * p1)) + l75_2).toNat) (dt 83 (((4 * l75_2) + 3).toNat))))) (fun _ => rfl) ?_
          exact GO.le (ih_loop27 (l75_2 + 1) (u2 (u2 (u2 (u2 dt21 80 (((978 + (16 * p1)) + l75_2).toNat) (dt 83 ((4 * l75_2).toNat))) 80 (((1042 + (16 * p1)) + l75_2).toNat) (dt 83 (((4 * l75_2) + 1).toNat))) 80 (((1106 + (16 * p1)) + l75_2).toNat) (dt 83 (((4 * l75_2) + 2).toNat))) 80 (((1170 + (16 * p1)) + l75_2).toNat) (dt 83 (((4 * l75_2) + 3).toNat))) hI55 hF56 (by first | omega | exact K1_0 (by omega) | exact K1_s (by assumption) (by omega) (by omega) rfl rfl rfl rfl) (by first | omega | exact K1_0 (by omega) | exact K1_s (by assumption) (by omega) (by omega) rfl rfl rfl rfl) (by first | omega | exact K1_0 (by omega) | exact K1_s (by assumption) (by omega) (by omega) rfl rfl rfl rfl) (by omega)) ⟨.inl rfl, .inl rfl, .inl rfl, trivial⟩
    exact GO.le (loop27 _ 0 (u2 dt 80 ((974 + p1).toNat) (dt 79 10)) hI5 hF6 (by first | omega | exact K1_0 (by omega) | exact K1_s (by assumption) (by omega) (by omega) rfl rfl rfl rfl) (by first | omega | exact K1_0 (by omega) | exact K1_s (by assumption) (by omega) (by omega) rfl rfl rfl rfl) (by first | omega | exact K1_0 (by omega) | exact K1_s (by assumption) (by omega) (by omega) rfl rfl rfl rfl) (Nat.lt_succ_self _)) ⟨.inl rfl, .inl rfl, .inl rfl, trivial⟩
  · skip
    exfalso; omega
set_option maxHeartbeats 1500000 in
set_option maxRecDepth 20000 in
theorem chk_sp_X6_text_q (L : Nat) (xs : Nat → Int32) (sio : Option Nat) (d : Nat) (dt : Nat → Nat → Int) (hI : InvC dt) (hM : MW (dt 80))  (p1 : Int) (h_p1 : (-2147483648) ≤ p1 ∧ p1 ≤ 2147483647) (p2 : Int) (h_p2 : (-2147483648) ≤ p2 ∧ p2 ≤ 2147483647)  : GO (am_XX L xs sio) (d + 38) 174 0 [some (.inr (.inr (some 79))), some (.inl p1), some (.inl p2), none] [] (SH, dt) (fun r w2 => ∃ dt2 : Nat → Nat → Int, w2 = (SH, dt2) ∧ InvC dt2 ∧ Fr [79, 80, 82, 83, 84] dt dt2 ∧ ((∃ v : Int, r = some (.inl v) ∧ ((-1) ≤ v ∧ v ≤ 24) ∧ (dt2 79 12 = 0) ∧ (dt2 79 2 = dt 79 2) ∧ (MW (dt2 80)) ∧ (dt2 80 0 = dt 80 0) ∧ (dt2 80 1 = dt 80 1) ∧ (dt2 80 2 = dt 80 2) ∧ (dt2 80 3 = dt 80 3) ∧ (dt2 80 4 = dt 80 4) ∧ (dt2 80 5 = dt 80 5) ∧ (∀ j : Nat, (j = 1 ∨ 5320 ≤ j) → dt2 80 j = dt 80 j)))) := by
  have hF : Fr [79, 80, 82, 83, 84] dt dt := Fr_refl
  have r1 : 0 ≤ dt 79 15 ∧ dt 79 15 ≤ 500 := InvC_get hI 79 15 rfl rfl
  have r2 : 0 ≤ dt 79 11 ∧ dt 79 11 ≤ 510 := InvC_get hI 79 11 rfl rfl
  have r3 : 0 ≤ dt 79 10 ∧ dt 79 10 ≤ 24 := InvC_get hI 79 10 rfl rfl
  refine go_to (k := 2) (pc' := 2) (L' := [some (.inr (.inr (some 79))), some (.inl p1), some (.inl p2), none]) (st' := [.inl 0, .inr (.inr (some 79))]) (w' := (SH, dt)) (fun _ => rfl) ?_
  have hI4 : InvC (u2 dt 79 17 0) := InvC_u2 hI (lo := -2147483648) (hi := 2147483647) rfl rfl rfl (by omega) (by omega)
  have hF5 : Fr [79, 80, 82, 83, 84] dt (u2 dt 79 17 0) := Fr_u2 hF (by decide)
  have w6 : (u2 dt 79 17 0) 79 2 = dt 79 2 := rfl
  have w7 : (u2 dt 79 17 0) 79 9 = dt 79 9 := rfl
  have w8 : (u2 dt 79 17 0) 79 10 = dt 79 10 := rfl
  have w9 : (u2 dt 79 17 0) 79 11 = dt 79 11 := rfl
  have w10 : (u2 dt 79 17 0) 79 12 = dt 79 12 := rfl
  have w11 : (u2 dt 79 17 0) 79 13 = dt 79 13 := rfl
  have w12 : (u2 dt 79 17 0) 79 14 = dt 79 14 := rfl
  have w13 : (u2 dt 79 17 0) 79 15 = dt 79 15 := rfl
  have E8414 : (u2 dt 79 17 0) 84 = dt 84 := funext fun _ => u2_ne (by omega)
  have E8015 : (u2 dt 79 17 0) 80 = dt 80 := (funext fun _ => u2_ne (fun z => absurd z.1 (by decide))).trans rfl
  refine go_smp (L' := [some (.inr (.inr (some 79))), some (.inl p1), some (.inl p2), none]) (st' := []) (w' := (SH, (u2 dt 79 17 0))) rfl rfl (s_pf rfl rfl rfl rfl ⟨by omega, by omega⟩) ?_
  refine go_to (k := 3) (pc' := 8) (L' := [some (.inr (.inr (some 79))), some (.inl p1), some (.inl p2), none]) (st' := [.inl 1, .inl 0, .inl p1]) (w' := (SH, (u2 dt 79 17 0))) (fun _ => rfl) ?_
  refine go_call (Q' := _) rfl rfl rfl rfl rfl (sp_X6_isIn L xs sio (d + 37) (u2 dt 79 17 0) hI4  p1 ⟨by omega, by omega⟩ 0 ⟨by omega, by omega⟩ 1 ⟨by omega, by omega⟩ ) ?_
  rintro _ _ ⟨rfl, h16⟩
  refine ⟨rfl, ?_⟩
  rcases h16 with ⟨rfl, h16⟩ | ⟨rfl, h16⟩
  · skip
    refine go_if (k := 5) (p1 := 25) (p2 := 20) (L' := [some (.inr (.inr (some 79))), some (.inl p1), some (.inl p2), none]) (st' := [.inl 0, .inl p2]) (w' := (SH, (u2 dt 79 17 0))) (fun _ => rfl) (z_ne (a := p1) ⟨by omega, by omega⟩) (fun c17 => ?_) (fun c17 => ?_)
    · skip
      refine go_to (k := 1) (pc' := 26) (L' := [some (.inr (.inr (some 79))), some (.inl p1), some (.inl p2), none]) (st' := [.inl 3, .inl 0, .inl p2]) (w' := (SH, (u2 dt 79 17 0))) (fun _ => rfl) ?_
      refine go_call (Q' := _) rfl rfl rfl rfl rfl (sp_X6_isIn L xs sio (d + 37) (u2 dt 79 17 0) hI4  p2 ⟨by omega, by omega⟩ 0 ⟨by omega, by omega⟩ 3 ⟨by omega, by omega⟩ ) ?_
      rintro _ _ ⟨rfl, h18⟩
      refine ⟨rfl, ?_⟩
      rcases h18 with ⟨rfl, h18⟩ | ⟨rfl, h18⟩
      · skip
        refine go_to (k := 3) (pc' := 51) (L' := [some (.inr (.inr (some 79))), some (.inl p1), some (.inl p2), none]) (st' := [.inl p1, .inr (.inr (some 79))]) (w' := (SH, (u2 dt 79 17 0))) (fun _ => rfl) ?_
        have hI19 : InvC (u2 (u2 dt 79 17 0) 79 9 p1) := InvC_u2 hI4 (lo := 0) (hi := 1) rfl rfl rfl (by omega) (by omega)
        have hF20 : Fr [79, 80, 82, 83, 84] dt (u2 (u2 dt 79 17 0) 79 9 p1) := Fr_u2 hF5 (by decide)
        have w21 : (u2 (u2 dt 79 17 0) 79 9 p1) 79 2 = (u2 dt 79 17 0) 79 2 := rfl
        have w22 : (u2 (u2 dt 79 17 0) 79 9 p1) 79 9 = p1 := rfl
        have w23 : (u2 (u2 dt 79 17 0) 79 9 p1) 79 10 = (u2 dt 79 17 0) 79 10 := rfl
        have w24 : (u2 (u2 dt 79 17 0) 79 9 p1) 79 11 = (u2 dt 79 17 0) 79 11 := rfl
        have w25 : (u2 (u2 dt 79 17 0) 79 9 p1) 79 12 = (u2 dt 79 17 0) 79 12 := rfl
        have w26 : (u2 (u2 dt 79 17 0) 79 9 p1) 79 13 = (u2 dt 79 17 0) 79 13 := rfl
        have w27 : (u2 (u2 dt 79 17 0) 79 9 p1) 79 14 = (u2 dt 79 17 0) 79 14 := rfl
        have w28 : (u2 (u2 dt 79 17 0) 79 9 p1) 79 15 = (u2 dt 79 17 0) 79 15 := rfl
        have E8429 : (u2 (u2 dt 79 17 0) 79 9 p1) 84 = dt 84 := (funext fun _ => u2_ne (by omega)).trans E8414
        have E8030 : (u2 (u2 dt 79 17 0) 79 9 p1) 80 = dt 80 := (funext fun _ => u2_ne (fun z => absurd z.1 (by decide))).trans E8015
        refine go_smp (L' := [some (.inr (.inr (some 79))), some (.inl p1), some (.inl p2), none]) (st' := []) (w' := (SH, (u2 (u2 dt 79 17 0) 79 9 p1))) rfl rfl (s_pf rfl rfl rfl rfl ⟨by omega, by omega⟩) ?_
        refine go_to (k := 2) (pc' := 56) (L' := [some (.inr (.inr (some 79))), some (.inl p1), some (.inl p2), none]) (st' := [.inl 0, .inr (.inr (some 79))]) (w' := (SH, (u2 (u2 dt 79 17 0) 79 9 p1))) (fun _ => rfl) ?_
        have hI31 : InvC (u2 (u2 (u2 dt 79 17 0) 79 9 p1) 79 13 0) := InvC_u2 hI19 (lo := 0) (hi := 501) rfl rfl rfl (by omega) (by omega)
        have hF32 : Fr [79, 80, 82, 83, 84] dt (u2 (u2 (u2 dt 79 17 0) 79 9 p1) 79 13 0) := Fr_u2 hF20 (by decide)
        have w33 : (u2 (u2 (u2 dt 79 17 0) 79 9 p1) 79 13 0) 79 2 = (u2 (u2 dt 79 17 0) 79 9 p1) 79 2 := rfl
        have w34 : (u2 (u2 (u2 dt 79 17 0) 79 9 p1) 79 13 0) 79 9 = (u2 (u2 dt 79 17 0) 79 9 p1) 79 9 := rfl
        have w35 : (u2 (u2 (u2 dt 79 17 0) 79 9 p1) 79 13 0) 79 10 = (u2 (u2 dt 79 17 0) 79 9 p1) 79 10 := rfl
        have w36 : (u2 (u2 (u2 dt 79 17 0) 79 9 p1) 79 13 0) 79 11 = (u2 (u2 dt 79 17 0) 79 9 p1) 79 11 := rfl
        have w37 : (u2 (u2 (u2 dt 79 17 0) 79 9 p1) 79 13 0) 79 12 = (u2 (u2 dt 79 17 0) 79 9 p1) 79 12 := rfl
        have w38 : (u2 (u2 (u2 dt 79 17 0) 79 9 p1) 79 13 0) 79 13 = 0 := rfl
        have w39 : (u2 (u2 (u2 dt 79 17 0) 79 9 p1) 79 13 0) 79 14 = (u2 (u2 dt 79 17 0) 79 9 p1) 79 14 := rfl
        have w40 : (u2 (u2 (u2 dt 79 17 0) 79 9 p1) 79 13 0) 79 15 = (u2 (u2 dt 79 17 0) 79 9 p1) 79 15 := rfl
        have E8441 : (u2 (u2 (u2 dt 79 17 0) 79 9 p1) 79 13 0) 84 = dt 84 := (funext fun _ => u2_ne (by omega)).trans E8429
        have E8042 : (u2 (u2 (u2 dt 79 17 0) 79 9 p1) 79 13 0) 80 = dt 80 := (funext fun _ => u2_ne (fun z => absurd z.1 (by decide))).trans E8030
        refine go_smp (L' := [some (.inr (.inr (some 79))), some (.inl p1), some (.inl p2), none]) (st' := []) (w' := (SH, (u2 (u2 (u2 dt 79 17 0) 79 9 p1) 79 13 0))) rfl rfl (s_pf rfl rfl rfl rfl ⟨by omega, by omega⟩) ?_
        refine go_to (k := 2) (pc' := 61) (L' := [some (.inr (.inr (some 79))), some (.inl p1), some (.inl p2), none]) (st' := [.inl 0, .inr (.inr (some 79))]) (w' := (SH, (u2 (u2 (u2 dt 79 17 0) 79 9 p1) 79 13 0))) (fun _ => rfl) ?_
        have hI43 : InvC (u2 (u2 (u2 (u2 dt 79 17 0) 79 9 p1) 79 13 0) 79 10 0) := InvC_u2 hI31 (lo := 0) (hi := 24) rfl rfl rfl (by omega) (by omega)
        have hF44 : Fr [79, 80, 82, 83, 84] dt (u2 (u2 (u2 (u2 dt 79 17 0) 79 9 p1) 79 13 0) 79 10 0) := Fr_u2 hF32 (by decide)
        have w45 : (u2 (u2 (u2 (u2 dt 79 17 0) 79 9 p1) 79 13 0) 79 10 0) 79 2 = (u2 (u2 (u2 dt 79 17 0) 79 9 p1) 79 13 0) 79 2 := rfl
        have w46 : (u2 (u2 (u2 (u2 dt 79 17 0) 79 9 p1) 79 13 0) 79 10 0) 79 9 = (u2 (u2 (u2 dt 79 17 0) 79 9 p1) 79 13 0) 79 9 := rfl
        have w47 : (u2 (u2 (u2 (u2 dt 79 17 0) 79 9 p1) 79 13 0) 79 10 0) 79 10 = 0 := rfl
        have w48 : (u2 (u2 (u2 (u2 dt 79 17 0) 79 9 p1) 79 13 0) 79 10 0) 79 11 = (u2 (u2 (u2 dt 79 17 0) 79 9 p1) 79 13 0) 79 11 := rfl
        have w49 : (u2 (u2 (u2 (u2 dt 79 17 0) 79 9 p1) 79 13 0) 79 10 0) 79 12 = (u2 (u2 (u2 dt 79 17 0) 79 9 p1) 79 13 0) 79 12 := rfl
        have w50 : (u2 (u2 (u2 (u2 dt 79 17 0) 79 9 p1) 79 13 0) 79 10 0) 79 13 = (u2 (u2 (u2 dt 79 17 0) 79 9 p1) 79 13 0) 79 13 := rfl
        have w51 : (u2 (u2 (u2 (u2 dt 79 17 0) 79 9 p1) 79 13 0) 79 10 0) 79 14 = (u2 (u2 (u2 dt 79 17 0) 79 9 p1) 79 13 0) 79 14 := rfl
        have w52 : (u2 (u2 (u2 (u2 dt 79 17 0) 79 9 p1) 79 13 0) 79 10 0) 79 15 = (u2 (u2 (u2 dt 79 17 0) 79 9 p1) 79 13 0) 79 15 := rfl
        have E8453 : (u2 (u2 (u2 (u2 dt 79 17 0) 79 9 p1) 79 13 0) 79 10 0) 84 = dt 84 := (funext fun _ => u2_ne (by omega)).trans E8441
        have E8054 : (u2 (u2 (u2 (u2 dt 79 17 0) 79 9 p1) 79 13 0) 79 10 0) 80 = dt 80 := (funext fun _ => u2_ne (fun z => absurd z.1 (by decide))).trans E8042
        refine go_smp (L' := [some (.inr (.inr (some 79))), some (.inl p1), some (.inl p2), none]) (st' := []) (w' := (SH, (u2 (u2 (u2 (u2 dt 79 17 0) 79 9 p1) 79 13 0) 79 10 0))) rfl rfl (s_pf rfl rfl rfl rfl ⟨by omega, by omega⟩) ?_
        refine go_to (k := 2) (pc' := 66) (L' := [some (.inr (.inr (some 79))), some (.inl p1), some (.inl p2), none]) (st' := [.inl 0, .inr (.inr (some 79))]) (w' := (SH, (u2 (u2 (u2 (u2 dt 79 17 0) 79 9 p1) 79 13 0) 79 10 0))) (fun _ => rfl) ?_
        have hI55 : InvC (u2 (u2 (u2 (u2 (u2 dt 79 17 0) 79 9 p1) 79 13 0) 79 10 0) 79 11 0) := InvC_u2 hI43 (lo := 0) (hi := 510) rfl rfl rfl (by omega) (by omega)
        have hF56 : Fr [79, 80, 82, 83, 84] dt (u2 (u2 (u2 (u2 (u2 dt 79 17 0) 79 9 p1) 79 13 0) 79 10 0) 79 11 0) := Fr_u2 hF44 (by decide)
        have w57 : (u2 (u2 (u2 (u2 (u2 dt 79 17 0) 79 9 p1) 79 13 0) 79 10 0) 79 11 0) 79 2 = (u2 (u2 (u2 (u2 dt 79 17 0) 79 9 p1) 79 13 0) 79 10 0) 79 2 := rfl
        have w58 : (u2 (u2 (u2 (u2 (u2 dt 79 17 0) 79 9 p1) 79 13 0) 79 10 0) 79 11 0) 79 9 = (u2 (u2 (u2 (u2 dt 79 17 0) 79 9 p1) 79 13 0) 79 10 0) 79 9 := rfl
        have w59 : (u2 (u2 (u2 (u2 (u2 dt 79 17 0) 79 9 p1) 79 13 0) 79 10 0) 79 11 0) 79 10 = (u2 (u2 (u2 (u2 dt 79 17 0) 79 9 p1) 79 13 0) 79 10 0) 79 10 := rfl
        have w60 : (u2 (u2 (u2 (u2 (u2 dt 79 17 0) 79 9 p1) 79 13 0) 79 10 0) 79 11 0) 79 11 = 0 := rfl
        have w61 : (u2 (u2 (u2 (u2 (u2 dt 79 17 0) 79 9 p1) 79 13 0) 79 10 0) 79 11 0) 79 12 = (u2 (u2 (u2 (u2 dt 79 17 0) 79 9 p1) 79 13 0) 79 10 0) 79 12 := rfl
        have w62 : (u2 (u2 (u2 (u2 (u2 dt 79 17 0) 79 9 p1) 79 13 0) 79 10 0) 79 11 0) 79 13 = (u2 (u2 (u2 (u2 dt 79 17 0) 79 9 p1) 79 13 0) 79 10 0) 79 13 := rfl
        have w63 : (u2 (u2 (u2 (u2 (u2 dt 79 17 0) 79 9 p1) 79 13 0) 79 10 0) 79 11 0) 79 14 = (u2 (u2 (u2 (u2 dt 79 17 0) 79 9 p1) 79 13 0) 79 10 0) 79 14 := rfl
        have w64 : (u2 (u2 (u2 (u2 (u2 dt 79 17 0) 79 9 p1) 79 13 0) 79 10 0) 79 11 0) 79 15 = (u2 (u2 (u2 (u2 dt 79 17 0) 79 9 p1) 79 13 0) 79 10 0) 79 15 := rfl
        have E8465 : (u2 (u2 (u2 (u2 (u2 dt 79 17 0) 79 9 p1) 79 13 0) 79 10 0) 79 11 0) 84 = dt 84 := (funext fun _ => u2_ne (by omega)).trans E8453
        have E8066 : (u2 (u2 (u2 (u2 (u2 dt 79 17 0) 79 9 p1) 79 13 0) 79 10 0) 79 11 0) 80 = dt 80 := (funext fun _ => u2_ne (fun z => absurd z.1 (by decide))).trans E8054
        refine go_smp (L' := [some (.inr (.inr (some 79))), some (.inl p1), some (.inl p2), none]) (st' := []) (w' := (SH, (u2 (u2 (u2 (u2 (u2 dt 79 17 0) 79 9 p1) 79 13 0) 79 10 0) 79 11 0))) rfl rfl (s_pf rfl rfl rfl rfl ⟨by omega, by omega⟩) ?_
        refine go_to (k := 1) (pc' := 70) (L' := [some (.inr (.inr (some 79))), some (.inl p1), some (.inl p2), none]) (st' := [.inr (.inr (some 79))]) (w' := (SH, (u2 (u2 (u2 (u2 (u2 dt 79 17 0) 79 9 p1) 79 13 0) 79 10 0) 79 11 0))) (fun _ => rfl) ?_
        refine go_call (Q' := _) rfl rfl rfl rfl rfl (sp_X6_next0 L xs sio (d + 31) (u2 (u2 (u2 (u2 (u2 dt 79 17 0) 79 9 p1) 79 13 0) 79 10 0) 79 11 0) hI55   (by first | trivial | omega | exact hI4 (by omega) (by omega) | exact hI5 (by omega) (by omega))) ?_
        rintro _ _ ⟨dt68, rfl, hI69, hF70, h67⟩
        refine ⟨rfl, ?_⟩
        have hF71 : Fr [79, 80, 82, 83, 84] dt dt68 := Fr_tr hF56 hF70 (by decide)
        have hM72 : MW (dt68 80) := MW_fr (d0 := (u2 (u2 (u2 (u2 (u2 dt 79 17 0) 79 9 p1) 79 13 0) 79 10 0) 79 11 0)) hM hF70 (by decide)
        have E8073 : dt68 80 = dt 80 := (funext (hF70 80 (by decide))).trans E8066
        have E8474 : dt68 84 = dt 84 := (funext (hF70 84 (by decide))).trans E8465
        rcases h67 with ⟨rfl, h67⟩
        obtain ⟨h67_0, h67_1, h67_2, h67_3, h67_4, h67_5, h67_6, h67_7, h67_8⟩ := h67
        refine go_to (k := 2) (pc' := 75) (L' := [some (.inr (.inr (some 79))), some (.inl p1), some (.inl p2), some (.inl 1)]) (st' := []) (w' := (SH, dt68)) (fun _ => rfl) ?_
        have loop127 : ∀ (k_ : Nat) (l75_3 : Int) (dt114 : Nat → Nat → Int) (hI115 : InvC dt114) (hF116 : Fr [79, 80, 82, 83, 84] dt dt114) (hM_dt114 : MW (dt114 80)) (i117 : 0 ≤ l75_3 ∧ l75_3 ≤ 1) (i118 : l75_3 = 1 → (¬ dt114 79 14 = 0 → dt114 79 15 + 1 ≤ dt114 79 13) ∧ dt114 79 13 ≤ 500) (i119 : dt114 79 15 ≤ 500) (i120 : l75_3 = 1 → dt114 79 11 ≤ dt114 79 15) (i121 : l75_3 = 1 → p1 = 1 → dt114 79 10 ≤ 16) (i122 : l75_3 = 1 → p1 = 0 → ARW (dt114 82) (dt114 79 10)) (i123 : l75_3 = 1 → p1 = 1 → LRW (dt114 83) (dt114 84) (dt114 79 10) (dt114 79 11)) (i124 : dt114 79 2 = dt 79 2) (i125 : dt114 79 9 = p1) (i126 : dt114 80 = dt 80), (l75_3 * (502 - dt114 79 15)).toNat < k_ → GO (am_XX L xs sio) (d + 38) 174 75 [some (.inr (.inr (some 79))), some (.inl p1), some (.inl p2), some (.inl l75_3)] [] (SH, dt114) (fun r w2 => ∃ dt2 : Nat → Nat → Int, w2 = (SH, dt2) ∧ InvC dt2 ∧ Fr [79, 80, 82, 83, 84] dt dt2 ∧ ((∃ v : Int, r = some (.inl v) ∧ ((-1) ≤ v ∧ v ≤ 24) ∧ (dt2 79 12 = 0) ∧ (dt2 79 2 = dt 79 2) ∧ (MW (dt2 80)) ∧ (dt2 80 0 = dt 80 0) ∧ (dt2 80 1 = dt 80 1) ∧ (dt2 80 2 = dt 80 2) ∧ (dt2 80 3 = dt 80 3) ∧ (dt2 80 4 = dt 80 4) ∧ (dt2 80 5 = dt 80 5) ∧ (∀ j : Nat, (j = 1 ∨ 5320 ≤ j) → dt2 80 j = dt 80 j)))) := by
          intro k_
          induction k_ with
          | zero => intro l75_3 dt114 hI115 hF116 hM_dt114 i117 i118 i119 i120 i121 i122 i123 i124 i125 i126 hm; exact absurd hm (Nat.not_lt_zero _)
          | succ k_ ih_loop127 =>
            intro l75_3 dt114 hI115 hF116 hM_dt114 i117 i118 i119 i120 i121 i122 i123 i124 i125 i126 hm
            have q10 : 0 ≤ dt114 79 10 ∧ dt114 79 10 ≤ 24 := InvC_get (by assumption) 79 10 rfl rfl
            have q11 : 0 ≤ dt114 79 11 ∧ dt114 79 11 ≤ 510 := InvC_get (by assumption) 79 11 rfl rfl
            have hE80 := i126
            have hI4 := i122
            have hI5 := i123
            have hm1 : l75_3 = 1 → (l75_3 * (502 - dt114 79 15)).toNat = (502 - dt114 79 15).toNat := fun e => by rw [e, Int.one_mul]
            refine go_if (k := 2) (p1 := 123) (p2 := 79) (L' := [some (.inr (.inr (some 79))), some (.inl p1), some (.inl p2), some (.inl l75_3)]) (st' := []) (w' := (SH, dt114)) (fun _ => rfl) (z_eq (a := l75_3) ⟨by omega, by omega⟩) (fun c128 => ?_) (fun c128 => ?_)
            · skip
              refine go_to (k := 2) (pc' := 125) (L' := [some (.inr (.inr (some 79))), some (.inl p1), some (.inl p2), some (.inl l75_3)]) (st' := [.inl 0, .inr (.inr (some 79))]) (w' := (SH, dt114)) (fun _ => rfl) ?_
              have hI129 : InvC (u2 dt114 79 12 0) := InvC_u2 hI115 (lo := 0) (hi := 500) rfl rfl rfl (by omega) (by omega)
              have hF130 : Fr [79, 80, 82, 83, 84] dt (u2 dt114 79 12 0) := Fr_u2 hF116 (by decide)
              have w131 : (u2 dt114 79 12 0) 79 2 = dt114 79 2 := rfl
              have w132 : (u2 dt114 79 12 0) 79 9 = dt114 79 9 := rfl
              have w133 : (u2 dt114 79 12 0) 79 10 = dt114 79 10 := rfl
              have w134 : (u2 dt114 79 12 0) 79 11 = dt114 79 11 := rfl
              have w135 : (u2 dt114 79 12 0) 79 12 = 0 := rfl
              have w136 : (u2 dt114 79 12 0) 79 13 = dt114 79 13 := rfl
              have w137 : (u2 dt114 79 12 0) 79 14 = dt114 79 14 := rfl
              have w138 : (u2 dt114 79 12 0) 79 15 = dt114 79 15 := rfl
              have E84139 : (u2 dt114 79 12 0) 84 = dt114 84 := funext fun _ => u2_ne (by omega)
              have E80140 : (u2 dt114 79 12 0) 80 = dt 80 := (funext fun _ => u2_ne (fun z => absurd z.1 (by decide))).trans hE80
              refine go_smp (L' := [some (.inr (.inr (some 79))), some (.inl p1), some (.inl p2), some (.inl l75_3)]) (st' := []) (w' := (SH, (u2 dt114 79 12 0))) rfl rfl (s_pf rfl rfl rfl rfl ⟨by omega, by omega⟩) ?_
              have r141 : (-2147483648) ≤ dt114 79 17 ∧ dt114 79 17 ≤ 2147483647 := InvC_get hI115 79 17 rfl rfl
              refine go_to (k := 3) (pc' := 133) (L' := [some (.inr (.inr (some 79))), some (.inl p1), some (.inl p2), some (.inl l75_3)]) (st' := [.inl (dt114 79 17), .inr (.inr (some 79))]) (w' := (SH, (u2 dt114 79 12 0))) (fun _ => rfl) ?_
              have hI142 : InvC (u2 (u2 dt114 79 12 0) 79 19 (dt114 79 17)) := InvC_u2 hI129 (lo := -2147483648) (hi := 2147483647) rfl rfl rfl (by omega) (by omega)
              have hF143 : Fr [79, 80, 82, 83, 84] dt (u2 (u2 dt114 79 12 0) 79 19 (dt114 79 17)) := Fr_u2 hF130 (by decide)
              have w144 : (u2 (u2 dt114 79 12 0) 79 19 (dt114 79 17)) 79 2 = (u2 dt114 79 12 0) 79 2 := rfl
              have w145 : (u2 (u2 dt114 79 12 0) 79 19 (dt114 79 17)) 79 9 = (u2 dt114 79 12 0) 79 9 := rfl
              have w146 : (u2 (u2 dt114 79 12 0) 79 19 (dt114 79 17)) 79 10 = (u2 dt114 79 12 0) 79 10 := rfl
              have w147 : (u2 (u2 dt114 79 12 0) 79 19 (dt114 79 17)) 79 11 = (u2 dt114 79 12 0) 79 11 := rfl
              have w148 : (u2 (u2 dt114 79 12 0) 79 19 (dt114 79 17)) 79 12 = (u2 dt114 79 12 0) 79 12 := rfl
              have w149 : (u2 (u2 dt114 79 12 0) 79 19 (dt114 79 17)) 79 13 = (u2 dt114 79 12 0) 79 13 := rfl
              have w150 : (u2 (u2 dt114 79 12 0) 79 19 (dt114 79 17)) 79 14 = (u2 dt114 79 12 0) 79 14 := rfl
              have w151 : (u2 (u2 dt114 79 12 0) 79 19 (dt114 79 17)) 79 15 = (u2 dt114 79 12 0) 79 15 := rfl
              have E84152 : (u2 (u2 dt114 79 12 0) 79 19 (dt114 79 17)) 84 = dt114 84 := (funext fun _ => u2_ne (by omega)).trans E84139
              have E80153 : (u2 (u2 dt114 79 12 0) 79 19 (dt114 79 17)) 80 = dt 80 := (funext fun _ => u2_ne (fun z => absurd z.1 (by decide))).trans E80140
              refine go_smp (L' := [some (.inr (.inr (some 79))), some (.inl p1), some (.inl p2), some (.inl l75_3)]) (st' := []) (w' := (SH, (u2 (u2 dt114 79 12 0) 79 19 (dt114 79 17)))) rfl rfl (s_pf rfl rfl rfl rfl ⟨by omega, by omega⟩) ?_
              refine go_if (k := 3) (p1 := 145) (p2 := 141) (L' := [some (.inr (.inr (some 79))), some (.inl p1), some (.inl p2), some (.inl l75_3)]) (st' := [.inr (.inr (some 79))]) (w' := (SH, (u2 (u2 dt114 79 12 0) 79 19 (dt114 79 17)))) (fun _ => rfl) (z_eq (a := l75_3) ⟨by omega, by omega⟩) (fun c154 => ?_) (fun c154 => ?_)
              · skip
                have r155 : (-2147483648) ≤ dt114 79 18 ∧ dt114 79 18 ≤ 2147483647 := InvC_get hI115 79 18 rfl rfl
                refine go_to (k := 2) (pc' := 149) (L' := [some (.inr (.inr (some 79))), some (.inl p1), some (.inl p2), some (.inl l75_3)]) (st' := [.inl (dt114 79 18), .inr (.inr (some 79))]) (w' := (SH, (u2 (u2 dt114 79 12 0) 79 19 (dt114 79 17)))) (fun _ => rfl) ?_
                have hI156 : InvC (u2 (u2 (u2 dt114 79 12 0) 79 19 (dt114 79 17)) 79 21 (dt114 79 18)) := InvC_u2 hI142 (lo := -2147483648) (hi := 2147483647) rfl rfl rfl (by omega) (by omega)
                have hF157 : Fr [79, 80, 82, 83, 84] dt (u2 (u2 (u2 dt114 79 12 0) 79 19 (dt114 79 17)) 79 21 (dt114 79 18)) := Fr_u2 hF143 (by decide)
                have w158 : (u2 (u2 (u2 dt114 79 12 0) 79 19 (dt114 79 17)) 79 21 (dt114 79 18)) 79 2 = (u2 (u2 dt114 79 12 0) 79 19 (dt114 79 17)) 79 2 := rfl
                have w159 : (u2 (u2 (u2 dt114 79 12 0) 79 19 (dt114 79 17)) 79 21 (dt114 79 18)) 79 9 = (u2 (u2 dt114 79 12 0) 79 19 (dt114 79 17)) 79 9 := rfl
                have w160 : (u2 (u2 (u2 dt114 79 12 0) 79 19 (dt114 79 17)) 79 21 (dt114 79 18)) 79 10 = (u2 (u2 dt114 79 12 0) 79 19 (dt114 79 17)) 79 10 := rfl
                have w161 : (u2 (u2 (u2 dt114 79 12 0) 79 19 (dt114 79 17)) 79 21 (dt114 79 18)) 79 11 = (u2 (u2 dt114 79 12 0) 79 19 (dt114 79 17)) 79 11 := rfl
                have w162 : (u2 (u2 (u2 dt114 79 12 0) 79 19 (dt114 79 17)) 79 21 (dt114 79 18)) 79 12 = (u2 (u2 dt114 79 12 0) 79 19 (dt114 79 17)) 79 12 := rfl
                have w163 : (u2 (u2 (u2 dt114 79 12 0) 79 19 (dt114 79 17)) 79 21 (dt114 79 18)) 79 13 = (u2 (u2 dt114 79 12 0) 79 19 (dt114 79 17)) 79 13 := rfl
                have w164 : (u2 (u2 (u2 dt114 79 12 0) 79 19 (dt114 79 17)) 79 21 (dt114 79 18)) 79 14 = (u2 (u2 dt114 79 12 0) 79 19 (dt114 79 17)) 79 14 := rfl
                have w165 : (u2 (u2 (u2 dt114 79 12 0) 79 19 (dt114 79 17)) 79 21 (dt114 79 18)) 79 15 = (u2 (u2 dt114 79 12 0) 79 19 (dt114 79 17)) 79 15 := rfl
                have E84166 : (u2 (u2 (u2 dt114 79 12 0) 79 19 (dt114 79 17)) 79 21 (dt114 79 18)) 84 = dt114 84 := (funext fun _ => u2_ne (by omega)).trans E84152
                have E80167 : (u2 (u2 (u2 dt114 79 12 0) 79 19 (dt114 79 17)) 79 21 (dt114 79 18)) 80 = dt 80 := (funext fun _ => u2_ne (fun z => absurd z.1 (by decide))).trans E80153
                refine go_smp (L' := [some (.inr (.inr (some 79))), some (.inl p1), some (.inl p2), some (.inl l75_3)]) (st' := []) (w' := (SH, (u2 (u2 (u2 dt114 79 12 0) 79 19 (dt114 79 17)) 79 21 (dt114 79 18)))) rfl rfl (s_pf rfl rfl rfl rfl ⟨by omega, by omega⟩) ?_
                refine go_if (k := 2) (p1 := 158) (p2 := 156) (L' := [some (.inr (.inr (some 79))), some (.inl p1), some (.inl p2), some (.inl l75_3)]) (st' := []) (w' := (SH, (u2 (u2 (u2 dt114 79 12 0) 79 19 (dt114 79 17)) 79 21 (dt114 79 18)))) (fun _ => rfl) (z_ne (a := l75_3) ⟨by omega, by omega⟩) (fun c168 => ?_) (fun c168 => ?_)
                · skip
                  refine go_to (k := 2) (pc' := 160) (L' := [some (.inr (.inr (some 79))), some (.inl p1), some (.inl p2), some (.inl l75_3)]) (st' := [.inl p2, .inr (.inr (some 79))]) (w' := (SH, (u2 (u2 (u2 dt114 79 12 0) 79 19 (dt114 79 17)) 79 21 (dt114 79 18)))) (fun _ => rfl) ?_
                  refine go_call (Q' := _) rfl rfl rfl rfl rfl (sp_X6_keeps_q1 L xs sio (d + 37) (u2 (u2 (u2 dt114 79 12 0) 79 19 (dt114 79 17)) 79 21 (dt114 79 18)) hI156 hM_dt114  p2 ⟨by omega, by omega⟩ (by first | trivial | omega | exact hI4 (by omega) (by omega) | exact hI5 (by omega) (by omega)) (by first | trivial | omega | exact hI4 (by omega) (by omega) | exact hI5 (by omega) (by omega)) (by first | trivial | omega | exact hI4 (by omega) (by omega) | exact hI5 (by omega) (by omega)) (by first | trivial | omega | exact hI4 (by omega) (by omega) | exact hI5 (by omega) (by omega))) ?_
                  rintro _ _ ⟨dt170, rfl, hI171, hF172, h169⟩
                  refine ⟨rfl, ?_⟩
                  have hF173 : Fr [79, 80, 82, 83, 84] dt dt170 := Fr_tr hF157 hF172 (by decide)
                  have w174 : dt170 79 2 = (u2 (u2 (u2 dt114 79 12 0) 79 19 (dt114 79 17)) 79 21 (dt114 79 18)) 79 2 := hF172 79 (by decide) 2
                  have w175 : dt170 79 9 = (u2 (u2 (u2 dt114 79 12 0) 79 19 (dt114 79 17)) 79 21 (dt114 79 18)) 79 9 := hF172 79 (by decide) 9
                  have w176 : dt170 79 10 = (u2 (u2 (u2 dt114 79 12 0) 79 19 (dt114 79 17)) 79 21 (dt114 79 18)) 79 10 := hF172 79 (by decide) 10
                  have w177 : dt170 79 11 = (u2 (u2 (u2 dt114 79 12 0) 79 19 (dt114 79 17)) 79 21 (dt114 79 18)) 79 11 := hF172 79 (by decide) 11
                  have w178 : dt170 79 12 = (u2 (u2 (u2 dt114 79 12 0) 79 19 (dt114 79 17)) 79 21 (dt114 79 18)) 79 12 := hF172 79 (by decide) 12
                  have w179 : dt170 79 13 = (u2 (u2 (u2 dt114 79 12 0) 79 19 (dt114 79 17)) 79 21 (dt114 79 18)) 79 13 := hF172 79 (by decide) 13
                  have w180 : dt170 79 14 = (u2 (u2 (u2 dt114 79 12 0) 79 19 (dt114 79 17)) 79 21 (dt114 79 18)) 79 14 := hF172 79 (by decide) 14
                  have w181 : dt170 79 15 = (u2 (u2 (u2 dt114 79 12 0) 79 19 (dt114 79 17)) 79 21 (dt114 79 18)) 79 15 := hF172 79 (by decide) 15
                  have E84182 : dt170 84 = dt114 84 := (funext (hF172 84 (by decide))).trans E84166
                  rcases h169 with ⟨rfl, h169⟩
                  have hM183 : MW (dt170 80) := h169.1
                  obtain ⟨h169_0, h169_1, h169_2, h169_3, h169_4, h169_5, h169_6, h169_7⟩ := h169
                  have r184 : 0 ≤ dt170 79 10 ∧ dt170 79 10 ≤ 24 := InvC_get hI171 79 10 rfl rfl
                  refine go_ret (k := 3) (r := some (.inl (dt170 79 10))) (w1 := (SH, dt170)) (fun _ => rfl) ?_
                  exact ⟨dt170, rfl, hI171, hF173, ⟨_, rfl, ⟨by omega, by omega⟩, ⟨by first | trivial | omega, by first | trivial | omega, by first | assumption | exact hM, by first | rfl | exact congrFun E80167 0 | exact Eq.trans (by assumption) (congrFun E80167 0), by first | rfl | exact congrFun E80167 1 | exact Eq.trans (by assumption) (congrFun E80167 1), by first | rfl | exact congrFun E80167 2 | exact Eq.trans (by assumption) (congrFun E80167 2), by first | rfl | exact congrFun E80167 3 | exact Eq.trans (by assumption) (congrFun E80167 3), by first | rfl | exact congrFun E80167 4 | exact Eq.trans (by assumption) (congrFun E80167 4), by first | rfl | exact congrFun E80167 5 | exact Eq.trans (by assumption) (congrFun E80167 5), by first | exact fun _ _ => rfl | exact fun j hj => (h169_7 j hj).trans (congrFun E80167 j) | exact fun j hj => congrFun E80167 j | exact fun j hj => Eq.trans (h169_7 j hj) (congrFun (by assumption) j)⟩⟩⟩
                · skip
                  refine go_ret (k := 2) (r := some (.inl (-1))) (w1 := (SH, (u2 (u2 (u2 dt114 79 12 0) 79 19 (dt114 79 17)) 79 21 (dt114 79 18)))) (fun _ => rfl) ?_
                  exact ⟨(u2 (u2 (u2 dt114 79 12 0) 79 19 (dt114 79 17)) 79 21 (dt114 79 18)), rfl, hI156, hF157, ⟨_, rfl, ⟨by omega, by omega⟩, ⟨by first | trivial | omega, by first | trivial | omega, by first | assumption | exact hM, by first | rfl | exact congrFun E80167 0 | exact Eq.trans (by assumption) (congrFun E80167 0), by first | rfl | exact congrFun E80167 1 | exact Eq.trans (by assumption) (congrFun E80167 1), by first | rfl | exact congrFun E80167 2 | exact Eq.trans (by assumption) (congrFun E80167 2), by first | rfl | exact congrFun E80167 3 | exact Eq.trans (by assumption) (congrFun E80167 3), by first | rfl | exact congrFun E80167 4 | exact Eq.trans (by assumption) (congrFun E80167 4), by first | rfl | exact congrFun E80167 5 | exact Eq.trans (by assumption) (congrFun E80167 5), by first | exact fun _ _ => rfl | exact fun j hj => (hI j hj).trans (congrFun E80167 j) | exact fun j hj => congrFun E80167 j | exact fun j hj => Eq.trans (hI j hj) (congrFun (by assumption) j)⟩⟩⟩
              · skip
                refine go_to (k := 2) (pc' := 149) (L' := [some (.inr (.inr (some 79))), some (.inl p1), some (.inl p2), some (.inl l75_3)]) (st' := [.inl (-1), .inr (.inr (some 79))]) (w' := (SH, (u2 (u2 dt114 79 12 0) 79 19 (dt114 79 17)))) (fun _ => rfl) ?_
                have hI185 : InvC (u2 (u2 (u2 dt114 79 12 0) 79 19 (dt114 79 17)) 79 21 (-1)) := InvC_u2 hI142 (lo := -2147483648) (hi := 2147483647) rfl rfl rfl (by omega) (by omega)
                have hF186 : Fr [79, 80, 82, 83, 84] dt (u2 (u2 (u2 dt114 79 12 0) 79 19 (dt114 79 17)) 79 21 (-1)) := Fr_u2 hF143 (by decide)
                have w187 : (u2 (u2 (u2 dt114 79 12 0) 79 19 (dt114 79 17)) 79 21 (-1)) 79 2 = (u2 (u2 dt114 79 12 0) 79 19 (dt114 79 17)) 79 2 := rfl
                have w188 : (u2 (u2 (u2 dt114 79 12 0) 79 19 (dt114 79 17)) 79 21 (-1)) 79 9 = (u2 (u2 dt114 79 12 0) 79 19 (dt114 79 17)) 79 9 := rfl
                have w189 : (u2 (u2 (u2 dt114 79 12 0) 79 19 (dt114 79 17)) 79 21 (-1)) 79 10 = (u2 (u2 dt114 79 12 0) 79 19 (dt114 79 17)) 79 10 := rfl
                have w190 : (u2 (u2 (u2 dt114 79 12 0) 79 19 (dt114 79 17)) 79 21 (-1)) 79 11 = (u2 (u2 dt114 79 12 0) 79 19 (dt114 79 17)) 79 11 := rfl
                have w191 : (u2 (u2 (u2 dt114 79 12 0) 79 19 (dt114 79 17)) 79 21 (-1)) 79 12 = (u2 (u2 dt114 79 12 0) 79 19 (dt114 79 17)) 79 12 := rfl
                have w192 : (u2 (u2 (u2 dt114 79 12 0) 79 19 (dt114 79 17)) 79 21 (-1)) 79 13 = (u2 (u2 dt114 79 12 0) 79 19 (dt114 79 17)) 79 13 := rfl
                have w193 : (u2 (u2 (u2 dt114 79 12 0) 79 19 (dt114 79 17)) 79 21 (-1)) 79 14 = (u2 (u2 dt114 79 12 0) 79 19 (dt114 79 17)) 79 14 := rfl
                have w194 : (u2 (u2 (u2 dt114 79 12 0) 79 19 (dt114 79 17)) 79 21 (-1)) 79 15 = (u2 (u2 dt114 79 12 0) 79 19 (dt114 79 17)) 79 15 := rfl
                have E84195 : (u2 (u2 (u2 dt114 79 12 0) 79 19 (dt114 79 17)) 79 21 (-1)) 84 = dt114 84 := (funext fun _ => u2_ne (by omega)).trans E84152
                have E80196 : (u2 (u2 (u2 dt114 79 12 0) 79 19 (dt114 79 17)) 79 21 (-1)) 80 = dt 80 := (funext fun _ => u2_ne (fun z => absurd z.1 (by decide))).trans E80153
                refine go_smp (L' := [some (.inr (.inr (some 79))), some (.inl p1), some (.inl p2), some (.inl l75_3)]) (st' := []) (w' := (SH, (u2 (u2 (u2 dt114 79 12 0) 79 19 (dt114 79 17)) 79 21 (-1)))) rfl rfl (s_pf rfl rfl rfl rfl ⟨by omega, by omega⟩) ?_
                refine go_if (k := 2) (p1 := 158) (p2 := 156) (L' := [some (.inr (.inr (some 79))), some (.inl p1), some (.inl p2), some (.inl l75_3)]) (st' := []) (w' := (SH, (u2 (u2 (u2 dt114 79 12 0) 79 19 (dt114 79 17)) 79 21 (-1)))) (fun _ => rfl) (z_ne (a := l75_3) ⟨by omega, by omega⟩) (fun c197 => ?_) (fun c197 => ?_)
                · skip
                  refine go_to (k := 2) (pc' := 160) (L' := [some (.inr (.inr (some 79))), some (.inl p1), some (.inl p2), some (.inl l75_3)]) (st' := [.inl p2, .inr (.inr (some 79))]) (w' := (SH, (u2 (u2 (u2 dt114 79 12 0) 79 19 (dt114 79 17)) 79 21 (-1)))) (fun _ => rfl) ?_
                  refine go_call (Q' := _) rfl rfl rfl rfl rfl (sp_X6_keeps_q1 L xs sio (d + 37) (u2 (u2 (u2 dt114 79 12 0) 79 19 (dt114 79 17)) 79 21 (-1)) hI185 hM_dt114  p2 ⟨by omega, by omega⟩ (by first | trivial | omega | exact hI4 (by omega) (by omega) | exact hI5 (by omega) (by omega)) (by first | trivial | omega | exact hI4 (by omega) (by omega) | exact hI5 (by omega) (by omega)) (by first | trivial | omega | exact hI4 (by omega) (by omega) | exact hI5 (by omega) (by omega)) (by first | trivial | omega | exact hI4 (by omega) (by omega) | exact hI5 (by omega) (by omega))) ?_
                  rintro _ _ ⟨dt199, rfl, hI200, hF201, h198⟩
                  refine ⟨rfl, ?_⟩
                  have hF202 : Fr [79, 80, 82, 83, 84] dt dt199 := Fr_tr hF186 hF201 (by decide)
                  have w203 : dt199 79 2 = (u2 (u2 (u2 dt114 79 12 0) 79 19 (dt114 79 17)) 79 21 (-1)) 79 2 := hF201 79 (by decide) 2
                  have w204 : dt199 79 9 = (u2 (u2 (u2 dt114 79 12 0) 79 19 (dt114 79 17)) 79 21 (-1)) 79 9 := hF201 79 (by decide) 9
                  have w205 : dt199 79 10 = (u2 (u2 (u2 dt114 79 12 0) 79 19 (dt114 79 17)) 79 21 (-1)) 79 10 := hF201 79 (by decide) 10
                  have w206 : dt199 79 11 = (u2 (u2 (u2 dt114 79 12 0) 79 19 (dt114 79 17)) 79 21 (-1)) 79 11 := hF201 79 (by decide) 11
                  have w207 : dt199 79 12 = (u2 (u2 (u2 dt114 79 12 0) 79 19 (dt114 79 17)) 79 21 (-1)) 79 12 := hF201 79 (by decide) 12
                  have w208 : dt199 79 13 = (u2 (u2 (u2 dt114 79 12 0) 79 19 (dt114 79 17)) 79 21 (-1)) 79 13 := hF201 79 (by decide) 13
                  have w209 : dt199 79 14 = (u2 (u2 (u2 dt114 79 12 0) 79 19 (dt114 79 17)) 79 21 (-1)) 79 14 := hF201 79 (by decide) 14
                  have w210 : dt199 79 15 = (u2 (u2 (u2 dt114 79 12 0) 79 19 (dt114 79 17)) 79 21 (-1)) 79 15 := hF201 79 (by decide) 15
                  have E84211 : dt199 84 = dt114 84 := (funext (hF201 84 (by decide))).trans E84195
                  rcases h198 with ⟨rfl, h198⟩
                  have hM212 : MW (dt199 80) := h198.1
                  obtain ⟨h198_0, h198_1, h198_2, h198_3, h198_4, h198_5, h198_6, h198_7⟩ := h198
                  have r213 : 0 ≤ dt199 79 10 ∧ dt199 79 10 ≤ 24 := InvC_get hI200 79 10 rfl rfl
                  refine go_ret (k := 3) (r := some (.inl (dt199 79 10))) (w1 := (SH, dt199)) (fun _ => rfl) ?_
                  exact ⟨dt199, rfl, hI200, hF202, ⟨_, rfl, ⟨by omega, by omega⟩, ⟨by first | trivial | omega, by first | trivial | omega, by first | assumption | exact hM, by first | rfl | exact congrFun E80196 0 | exact Eq.trans (by assumption) (congrFun E80196 0), by first | rfl | exact congrFun E80196 1 | exact Eq.trans (by assumption) (congrFun E80196 1), by first | rfl | exact congrFun E80196 2 | exact Eq.trans (by assumption) (congrFun E80196 2), by first | rfl | exact congrFun E80196 3 | exact Eq.trans (by assumption) (congrFun E80196 3), by first | rfl | exact congrFun E80196 4 | exact Eq.trans (by assumption) (congrFun E80196 4), by first | rfl | exact congrFun E80196 5 | exact Eq.trans (by assumption) (congrFun E80196 5), by first | exact fun _ _ => rfl | exact fun j hj => (h198_7 j hj).trans (congrFun E80196 j) | exact fun j hj => congrFun E80196 j | exact fun j hj => Eq.trans (h198_7 j hj) (congrFun (by assumption) j)⟩⟩⟩
                · exfalso; omega
            · skip
              have hc214 : l75_3 = 1 := by omega
              subst hc214
              have r215 : (-2147483648) ≤ dt114 79 14 ∧ dt114 79 14 ≤ 2147483647 := InvC_get hI115 79 14 rfl rfl
              refine go_if (k := 3) (p1 := 123) (p2 := 86) (L' := [some (.inr (.inr (some 79))), some (.inl p1), some (.inl p2), some (.inl 1)]) (st' := []) (w' := (SH, dt114)) (fun _ => rfl) (z_eq (a := dt114 79 14) ⟨by omega, by omega⟩) (fun c216 => ?_) (fun c216 => ?_)
              · skip
                refine go_to (k := 2) (pc' := 125) (L' := [some (.inr (.inr (some 79))), some (.inl p1), some (.inl p2), some (.inl 1)]) (st' := [.inl 0, .inr (.inr (some 79))]) (w' := (SH, dt114)) (fun _ => rfl) ?_
                have hI217 : InvC (u2 dt114 79 12 0) := InvC_u2 hI115 (lo := 0) (hi := 500) rfl rfl rfl (by omega) (by omega)
                have hF218 : Fr [79, 80, 82, 83, 84] dt (u2 dt114 79 12 0) := Fr_u2 hF116 (by decide)
                have w219 : (u2 dt114 79 12 0) 79 2 = dt114 79 2 := rfl
                have w220 : (u2 dt114 79 12 0) 79 9 = dt114 79 9 := rfl
                have w221 : (u2 dt114 79 12 0) 79 10 = dt114 79 10 := rfl
                have w222 : (u2 dt114 79 12 0) 79 11 = dt114 79 11 := rfl
                have w223 : (u2 dt114 79 12 0) 79 12 = 0 := rfl
                have w224 : (u2 dt114 79 12 0) 79 13 = dt114 79 13 := rfl
                have w225 : (u2 dt114 79 12 0) 79 14 = dt114 79 14 := rfl
                have w226 : (u2 dt114 79 12 0) 79 15 = dt114 79 15 := rfl
                have E84227 : (u2 dt114 79 12 0) 84 = dt114 84 := funext fun _ => u2_ne (by omega)
                have E80228 : (u2 dt114 79 12 0) 80 = dt 80 := (funext fun _ => u2_ne (fun z => absurd z.1 (by decide))).trans hE80
                refine go_smp (L' := [some (.inr (.inr (some 79))), some (.inl p1), some (.inl p2), some (.inl 1)]) (st' := []) (w' := (SH, (u2 dt114 79 12 0))) rfl rfl (s_pf rfl rfl rfl rfl ⟨by omega, by omega⟩) ?_
                have r229 : (-2147483648) ≤ dt114 79 17 ∧ dt114 79 17 ≤ 2147483647 := InvC_get hI115 79 17 rfl rfl
                refine go_to (k := 3) (pc' := 133) (L' := [some (.inr (.inr (some 79))), some (.inl p1), some (.inl p2), some (.inl 1)]) (st' := [.inl (dt114 79 17), .inr (.inr (some 79))]) (w' := (SH, (u2 dt114 79 12 0))) (fun _ => rfl) ?_
                have hI230 : InvC (u2 (u2 dt114 79 12 0) 79 19 (dt114 79 17)) := InvC_u2 hI217 (lo := -2147483648) (hi := 2147483647) rfl rfl rfl (by omega) (by omega)
                have hF231 : Fr [79, 80, 82, 83, 84] dt (u2 (u2 dt114 79 12 0) 79 19 (dt114 79 17)) := Fr_u2 hF218 (by decide)
                have w232 : (u2 (u2 dt114 79 12 0) 79 19 (dt114 79 17)) 79 2 = (u2 dt114 79 12 0) 79 2 := rfl
                have w233 : (u2 (u2 dt114 79 12 0) 79 19 (dt114 79 17)) 79 9 = (u2 dt114 79 12 0) 79 9 := rfl
                have w234 : (u2 (u2 dt114 79 12 0) 79 19 (dt114 79 17)) 79 10 = (u2 dt114 79 12 0) 79 10 := rfl
                have w235 : (u2 (u2 dt114 79 12 0) 79 19 (dt114 79 17)) 79 11 = (u2 dt114 79 12 0) 79 11 := rfl
                have w236 : (u2 (u2 dt114 79 12 0) 79 19 (dt114 79 17)) 79 12 = (u2 dt114 79 12 0) 79 12 := rfl
                have w237 : (u2 (u2 dt114 79 12 0) 79 19 (dt114 79 17)) 79 13 = (u2 dt114 79 12 0) 79 13 := rfl
                have w238 : (u2 (u2 dt114 79 12 0) 79 19 (dt114 79 17)) 79 14 = (u2 dt114 79 12 0) 79 14 := rfl
                have w239 : (u2 (u2 dt114 79 12 0) 79 19 (dt114 79 17)) 79 15 = (u2 dt114 79 12 0) 79 15 := rfl
                have E84240 : (u2 (u2 dt114 79 12 0) 79 19 (dt114 79 17)) 84 = dt114 84 := (funext fun _ => u2_ne (by omega)).trans E84227
                have E80241 : (u2 (u2 dt114 79 12 0) 79 19 (dt114 79 17)) 80 = dt 80 := (funext fun _ => u2_ne (fun z => absurd z.1 (by decide))).trans E80228
                refine go_smp (L' := [some (.inr (.inr (some 79))), some (.inl p1), some (.inl p2), some (.inl 1)]) (st' := []) (w' := (SH, (u2 (u2 dt114 79 12 0) 79 19 (dt114 79 17)))) rfl rfl (s_pf rfl rfl rfl rfl ⟨by omega, by omega⟩) ?_
                refine go_to (k := 5) (pc' := 149) (L' := [some (.inr (.inr (some 79))), some (.inl p1), some (.inl p2), some (.inl 1)]) (st' := [.inl (-1), .inr (.inr (some 79))]) (w' := (SH, (u2 (u2 dt114 79 12 0) 79 19 (dt114 79 17)))) (fun _ => rfl) ?_
                have hI242 : InvC (u2 (u2 (u2 dt114 79 12 0) 79 19 (dt114 79 17)) 79 21 (-1)) := InvC_u2 hI230 (lo := -2147483648) (hi := 2147483647) rfl rfl rfl (by omega) (by omega)
                have hF243 : Fr [79, 80, 82, 83, 84] dt (u2 (u2 (u2 dt114 79 12 0) 79 19 (dt114 79 17)) 79 21 (-1)) := Fr_u2 hF231 (by decide)
                have w244 : (u2 (u2 (u2 dt114 79 12 0) 79 19 (dt114 79 17)) 79 21 (-1)) 79 2 = (u2 (u2 dt114 79 12 0) 79 19 (dt114 79 17)) 79 2 := rfl
                have w245 : (u2 (u2 (u2 dt114 79 12 0) 79 19 (dt114 79 17)) 79 21 (-1)) 79 9 = (u2 (u2 dt114 79 12 0) 79 19 (dt114 79 17)) 79 9 := rfl
                have w246 : (u2 (u2 (u2 dt114 79 12 0) 79 19 (dt114 79 17)) 79 21 (-1)) 79 10 = (u2 (u2 dt114 79 12 0) 79 19 (dt114 79 17)) 79 10 := rfl
                have w247 : (u2 (u2 (u2 dt114 79 12 0) 79 19 (dt114 79 17)) 79 21 (-1)) 79 11 = (u2 (u2 dt114 79 12 0) 79 19 (dt114 79 17)) 79 11 := rfl
                have w248 : (u2 (u2 (u2 dt114 79 12 0) 79 19 (dt114 79 17)) 79 21 (-1)) 79 12 = (u2 (u2 dt114 79 12 0) 79 19 (dt114 79 17)) 79 12 := rfl
                have w249 : (u2 (u2 (u2 dt114 79 12 0) 79 19 (dt114 79 17)) 79 21 (-1)) 79 13 = (u2 (u2 dt114 79 12 0) 79 19 (dt114 79 17)) 79 13 := rfl
                have w250 : (u2 (u2 (u2 dt114 79 12 0) 79 19 (dt114 79 17)) 79 21 (-1)) 79 14 = (u2 (u2 dt114 79 12 0) 79 19 (dt114 79 17)) 79 14 := rfl
                have w251 : (u2 (u2 (u2 dt114 79 12 0) 79 19 (dt114 79 17)) 79 21 (-1)) 79 15 = (u2 (u2 dt114 79 12 0) 79 19 (dt114 79 17)) 79 15 := rfl
                have E84252 : (u2 (u2 (u2 dt114 79 12 0) 79 19 (dt114 79 17)) 79 21 (-1)) 84 = dt114 84 := (funext fun _ => u2_ne (by omega)).trans E84240
                have E80253 : (u2 (u2 (u2 dt114 79 12 0) 79 19 (dt114 79 17)) 79 21 (-1)) 80 = dt 80 := (funext fun _ => u2_ne (fun z => absurd z.1 (by decide))).trans E80241
                refine go_smp (L' := [some (.inr (.inr (some 79))), some (.inl p1), some (.inl p2), some (.inl 1)]) (st' := []) (w' := (SH, (u2 (u2 (u2 dt114 79 12 0) 79 19 (dt114 79 17)) 79 21 (-1)))) rfl rfl (s_pf rfl rfl rfl rfl ⟨by omega, by omega⟩) ?_
                refine go_to (k := 4) (pc' := 160) (L' := [some (.inr (.inr (some 79))), some (.inl p1), some (.inl p2), some (.inl 1)]) (st' := [.inl p2, .inr (.inr (some 79))]) (w' := (SH, (u2 (u2 (u2 dt114 79 12 0) 79 19 (dt114 79 17)) 79 21 (-1)))) (fun _ => rfl) ?_
                refine go_call (Q' := _) rfl rfl rfl rfl rfl (sp_X6_keeps_q1 L xs sio (d + 37) (u2 (u2 (u2 dt114 79 12 0) 79 19 (dt114 79 17)) 79 21 (-1)) hI242 hM_dt114  p2 ⟨by omega, by omega⟩ (by first | trivial | omega | exact hI4 (by omega) (by omega) | exact hI5 (by omega) (by omega)) (by first | trivial | omega | exact hI4 (by omega) (by omega) | exact hI5 (by omega) (by omega)) (by first | trivial | omega | exact hI4 (by omega) (by omega) | exact hI5 (by omega) (by omega)) (by first | trivial | omega | exact hI4 (by omega) (by omega) | exact hI5 (by omega) (by omega))) ?_
                rintro _ _ ⟨dt255, rfl, hI256, hF257, h254⟩
                refine ⟨rfl, ?_⟩
                have hF258 : Fr [79, 80, 82, 83, 84] dt dt255 := Fr_tr hF243 hF257 (by decide)
                have w259 : dt255 79 2 = (u2 (u2 (u2 dt114 79 12 0) 79 19 (dt114 79 17)) 79 21 (-1)) 79 2 := hF257 79 (by decide) 2
                have w260 : dt255 79 9 = (u2 (u2 (u2 dt114 79 12 0) 79 19 (dt114 79 17)) 79 21 (-1)) 79 9 := hF257 79 (by decide) 9
                have w261 : dt255 79 10 = (u2 (u2 (u2 dt114 79 12 0) 79 19 (dt114 79 17)) 79 21 (-1)) 79 10 := hF257 79 (by decide) 10
                have w262 : dt255 79 11 = (u2 (u2 (u2 dt114 79 12 0) 79 19 (dt114 79 17)) 79 21 (-1)) 79 11 := hF257 79 (by decide) 11
                have w263 : dt255 79 12 = (u2 (u2 (u2 dt114 79 12 0) 79 19 (dt114 79 17)) 79 21 (-1)) 79 12 := hF257 79 (by decide) 12
                have w264 : dt255 79 13 = (u2 (u2 (u2 dt114 79 12 0) 79 19 (dt114 79 17)) 79 21 (-1)) 79 13 := hF257 79 (by decide) 13
                have w265 : dt255 79 14 = (u2 (u2 (u2 dt114 79 12 0) 79 19 (dt114 79 17)) 79 21 (-1)) 79 14 := hF257 79 (by decide) 14
                have w266 : dt255 79 15 = (u2 (u2 (u2 dt114 79 12 0) 79 19 (dt114 79 17)) 79 21 (-1)) 79 15 := hF257 79 (by decide) 15
                have E84267 : dt255 84 = dt114 84 := (funext (hF257 84 (by decide))).trans E84252
                rcases h254 with ⟨rfl, h254⟩
                have hM268 : MW (dt255 80) := h254.1
                obtain ⟨h254_0, h254_1, h254_2, h254_3, h254_4, h254_5, h254_6, h254_7⟩ := h254
                have r269 : 0 ≤ dt255 79 10 ∧ dt255 79 10 ≤ 24 := InvC_get hI256 79 10 rfl rfl
                refine go_ret (k := 3) (r := some (.inl (dt255 79 10))) (w1 := (SH, dt255)) (fun _ => rfl) ?_
                exact ⟨dt255, rfl, hI256, hF258, ⟨_, rfl, ⟨by omega, by omega⟩, ⟨by first | trivial | omega, by first | trivial | omega, by first | assumption | exact hM, by first | rfl | exact congrFun E80253 0 | exact Eq.trans (by assumption) (congrFun E80253 0), by first | rfl | exact congrFun E80253 1 | exact Eq.trans (by assumption) (congrFun E80253 1), by first | rfl | exact congrFun E80253 2 | exact Eq.trans (by assumption) (congrFun E80253 2), by first | rfl | exact congrFun E80253 3 | exact Eq.trans (by assumption) (congrFun E80253 3), by first | rfl | exact congrFun E80253 4 | exact Eq.trans (by assumption) (congrFun E80253 4), by first | rfl | exact congrFun E80253 5 | exact Eq.trans (by assumption) (congrFun E80253 5), by first | exact fun _ _ => rfl | exact fun j hj => (h254_7 j hj).trans (congrFun E80253 j) | exact fun j hj => congrFun E80253 j | exact fun j hj => Eq.trans (h254_7 j hj) (congrFun (by assumption) j)⟩⟩⟩
              · skip
                refine go_if (k := 2) (p1 := 97) (p2 := 90) (L' := [some (.inr (.inr (some 79))), some (.inl p1), some (.inl p2), some (.inl 1)]) (st' := []) (w' := (SH, dt114)) (fun _ => rfl) (z_ne (a := p1) ⟨by omega, by omega⟩) (fun c270 => ?_) (fun c270 => ?_)
                · skip
                  refine go_to (k := 1) (pc' := 98) (L' := [some (.inr (.inr (some 79))), some (.inl p1), some (.inl p2), some (.inl 1)]) (st' := [.inr (.inr (some 79))]) (w' := (SH, dt114)) (fun _ => rfl) ?_
                  refine go_call (Q' := _) rfl rfl rfl rfl rfl (sp_X6_aLine L xs sio (d + 0) dt114 hI115   (by first | trivial | omega | exact hI4 (by omega) (by omega) | exact hI5 (by omega) (by omega)) (by first | trivial | omega | exact hI4 (by omega) (by omega) | exact hI5 (by omega) (by omega)) (by first | trivial | omega | exact hI4 (by omega) (by omega) | exact hI5 (by omega) (by omega))) ?_
                  rintro _ _ ⟨dt272, rfl, hI273, hF274, h271⟩
                  refine ⟨rfl, ?_⟩
                  have hF275 : Fr [79, 80, 82, 83, 84] dt dt272 := Fr_tr hF116 hF274 (by decide)
                  have hM276 : MW (dt272 80) := MW_fr hM_dt114 hF274 (by decide)
                  have E80277 : dt272 80 = dt 80 := (funext (hF274 80 (by decide))).trans hE80
                  rcases h271 with ⟨rfl, h271⟩ | ⟨rfl, h271⟩
                  · skip
                    obtain ⟨h271_0, h271_1, h271_2⟩ := h271
                    have r278 : 0 ≤ dt272 79 10 ∧ dt272 79 10 ≤ 24 := InvC_get hI273 79 10 rfl rfl
                    refine go_to (k := 8) (pc' := 117) (L' := [some (.inr (.inr (some 79))), some (.inl p1), some (.inl p2), some (.inl 0)]) (st' := [.inl ((dt272 79 10) + 0), .inr (.inr (some 79))]) (w' := (SH, dt272)) (fun _ => rfl) ?_
                    have hI279 : InvC (u2 dt272 79 10 ((dt272 79 10) + 0)) := InvC_u2 hI273 (lo := 0) (hi := 24) rfl rfl rfl (by omega) (by omega)
                    have hF280 : Fr [79, 80, 82, 83, 84] dt (u2 dt272 79 10 ((dt272 79 10) + 0)) := Fr_u2 hF275 (by decide)
                    have w281 : (u2 dt272 79 10 ((dt272 79 10) + 0)) 79 2 = dt272 79 2 := rfl
                    have w282 : (u2 dt272 79 10 ((dt272 79 10) + 0)) 79 9 = dt272 79 9 := rfl
                    have w283 : (u2 dt272 79 10 ((dt272 79 10) + 0)) 79 10 = (dt272 79 10) + 0 := rfl
                    have w284 : (u2 dt272 79 10 ((dt272 79 10) + 0)) 79 11 = dt272 79 11 := rfl
                    have w285 : (u2 dt272 79 10 ((dt272 79 10) + 0)) 79 12 = dt272 79 12 := rfl
                    have w286 : (u2 dt272 79 10 ((dt272 79 10) + 0)) 79 13 = dt272 79 13 := rfl
                    have w287 : (u2 dt272 79 10 ((dt272 79 10) + 0)) 79 14 = dt272 79 14 := rfl
                    have w288 : (u2 dt272 79 10 ((dt272 79 10) + 0)) 79 15 = dt272 79 15 := rfl
                    have E84289 : (u2 dt272 79 10 ((dt272 79 10) + 0)) 84 = dt272 84 := funext fun _ => u2_ne (by omega)
                    have E80290 : (u2 dt272 79 10 ((dt272 79 10) + 0)) 80 = dt 80 := (funext fun _ => u2_ne (fun z => absurd z.1 (by decide))).trans E80277
                    refine go_smp (L' := [some (.inr (.inr (some 79))), some (.inl p1), some (.inl p2), some (.inl 0)]) (st' := []) (w' := (SH, (u2 dt272 79 10 ((dt272 79 10) + 0)))) rfl rfl (s_pf rfl rfl rfl rfl ⟨by omega, by omega⟩) ?_
                    refine go_to (k := 1) (pc' := 75) (L' := [some (.inr (.inr (some 79))), some (.inl p1), some (.inl p2), some (.inl 0)]) (st' := []) (w' := (SH, (u2 dt272 79 10 ((dt272 79 10) + 0)))) (fun _ => rfl) ?_
                    exact GO.le (ih_loop127 0 (u2 dt272 79 10 ((dt272 79 10) + 0)) hI279 hF280 hM276 (by omega) (by omega) (by first | omega | exact (InvC_get (by assumption) 79 15 rfl rfl).2) (by omega) (by omega) (by intro _ hz; first | omega | exact ARW_0 (by omega) | exact ARW_s (hI4 (by omega) hz) (by omega) (by assumption) (by assumption) (by omega)) (by intro _ hz; first | omega | exact LRW_0 (by omega) | exact LRW_s (hI5 (by omega) hz) (by omega) (by assumption) (by assumption) (by assumption) (by omega) (by omega)) (by omega) (by omega) (by exact E80290) (by omega)) ⟨.inl rfl, .inl rfl, .inl rfl, .inl rfl, trivial⟩
                  · skip
                    obtain ⟨h271_0, h271_1, h271_2, h271_3, h271_4, h271_5, h271_6, h271_7, h271_8, h271_9, h271_10, h271_11, h271_12⟩ := h271
                    have r291 : 0 ≤ dt272 79 10 ∧ dt272 79 10 ≤ 24 := InvC_get hI273 79 10 rfl rfl
                    refine go_to (k := 9) (pc' := 117) (L' := [some (.inr (.inr (some 79))), some (.inl p1), some (.inl p2), some (.inl 1)]) (st' := [.inl ((dt272 79 10) + 1), .inr (.inr (some 79))]) (w' := (SH, dt272)) (fun _ => rfl) ?_
                    have hI292 : InvC (u2 dt272 79 10 ((dt272 79 10) + 1)) := InvC_u2 hI273 (lo := 0) (hi := 24) rfl rfl rfl (by omega) (by omega)
                    have hF293 : Fr [79, 80, 82, 83, 84] dt (u2 dt272 79 10 ((dt272 79 10) + 1)) := Fr_u2 hF275 (by decide)
                    have w294 : (u2 dt272 79 10 ((dt272 79 10) + 1)) 79 2 = dt272 79 2 := rfl
                    have w295 : (u2 dt272 79 10 ((dt272 79 10) + 1)) 79 9 = dt272 79 9 := rfl
                    have w296 : (u2 dt272 79 10 ((dt272 79 10) + 1)) 79 10 = (dt272 79 10) + 1 := rfl
                    have w297 : (u2 dt272 79 10 ((dt272 79 10) + 1)) 79 11 = dt272 79 11 := rfl
                    have w298 : (u2 dt272 79 10 ((dt272 79 10) + 1)) 79 12 = dt272 79 12 := rfl
                    have w299 : (u2 dt272 79 10 ((dt272 79 10) + 1)) 79 13 = dt272 79 13 := rfl
                    have w300 : (u2 dt272 79 10 ((dt272 79 10) + 1)) 79 14 = dt272 79 14 := rfl
                    have w301 : (u2 dt272 79 10 ((dt272 79 10) + 1)) 79 15 = dt272 79 15 := rfl
                    have E84302 : (u2 dt272 79 10 ((dt272 79 10) + 1)) 84 = dt272 84 := funext fun _ => u2_ne (by omega)
                    have E80303 : (u2 dt272 79 10 ((dt272 79 10) + 1)) 80 = dt 80 := (funext fun _ => u2_ne (fun z => absurd z.1 (by decide))).trans E80277
                    refine go_smp (L' := [some (.inr (.inr (some 79))), some (.inl p1), some (.inl p2), some (.inl 1)]) (st' := []) (w' := (SH, (u2 dt272 79 10 ((dt272 79 10) + 1)))) rfl rfl (s_pf rfl rfl rfl rfl ⟨by omega, by omega⟩) ?_
                    refine go_to (k := 1) (pc' := 75) (L' := [some (.inr (.inr (some 79))), some (.inl p1), some (.inl p2), some (.inl 1)]) (st' := []) (w' := (SH, (u2 dt272 79 10 ((dt272 79 10) + 1)))) (fun _ => rfl) ?_
                    exact GO.le (ih_loop127 1 (u2 dt272 79 10 ((dt272 79 10) + 1)) hI292 hF293 hM276 (by omega) (by omega) (by first | omega | exact (InvC_get (by assumption) 79 15 rfl rfl).2) (by omega) (by omega) (by intro _ hz; first | omega | exact ARW_0 (by omega) | exact ARW_s (hI4 (by omega) hz) (by omega) (by assumption) (by assumption) (by omega)) (by intro _ hz; first | omega | exact LRW_0 (by omega) | exact LRW_s (hI5 (by omega) hz) (by omega) (by assumption) (by assumption) (by assumption) (by omega) (by omega)) (by omega) (by omega) (by exact E80303) (by omega)) ⟨.inl rfl, .inl rfl, .inl rfl, .inl rfl, trivial⟩
                · exfalso; omega
        exact GO.le (loop127 _ 1 dt68 hI69 hF71 hM72 (by omega) (by omega) (by first | omega | exact (InvC_get (by assumption) 79 15 rfl rfl).2) (by omega) (by omega) (by intro _ hz; first | omega | exact ARW_0 (by omega) | exact ARW_s (hI4 (by omega) hz) (by omega) (by assumption) (by assumption) (by omega)) (by intro _ hz; first | omega | exact LRW_0 (by omega) | exact LRW_s (hI5 (by omega) hz) (by omega) (by assumption) (by assumption) (by assumption) (by omega) (by omega)) (by omega) (by omega) (by exact E8073) (Nat.lt_succ_self _)) ⟨.inl rfl, .inl rfl, .inl rfl, .inl rfl, trivial⟩
      · skip
        refine go_to (k := 3) (pc' := 34) (L' := [some (.inr (.inr (some 79))), some (.inl p1), some (.inl p2), none]) (st' := [.inl 0, .inr (.inr (some 79))]) (w' := (SH, (u2 dt 79 17 0))) (fun _ => rfl) ?_
        have hI304 : InvC (u2 (u2 dt 79 17 0) 79 12 0) := InvC_u2 hI4 (lo := 0) (hi := 500) rfl rfl rfl (by omega) (by omega)
        have hF305 : Fr [79, 80, 82, 83, 84] dt (u2 (u2 dt 79 17 0) 79 12 0) := Fr_u2 hF5 (by decide)
        have w306 : (u2 (u2 dt 79 17 0) 79 12 0) 79 2 = (u2 dt 79 17 0) 79 2 := rfl
        have w307 : (u2 (u2 dt 79 17 0) 79 12 0) 79 9 = (u2 dt 79 17 0) 79 9 := rfl
        have w308 : (u2 (u2 dt 79 17 0) 79 12 0) 79 10 = (u2 dt 79 17 0) 79 10 := rfl
        have w309 : (u2 (u2 dt 79 17 0) 79 12 0) 79 11 = (u2 dt 79 17 0) 79 11 := rfl
        have w310 : (u2 (u2 dt 79 17 0) 79 12 0) 79 12 = 0 := rfl
        have w311 : (u2 (u2 dt 79 17 0) 79 12 0) 79 13 = (u2 dt 79 17 0) 79 13 := rfl
        have w312 : (u2 (u2 dt 79 17 0) 79 12 0) 79 14 = (u2 dt 79 17 0) 79 14 := rfl
        have w313 : (u2 (u2 dt 79 17 0) 79 12 0) 79 15 = (u2 dt 79 17 0) 79 15 := rfl
        have E84314 : (u2 (u2 dt 79 17 0) 79 12 0) 84 = dt 84 := (funext fun _ => u2_ne (by omega)).trans E8414
        have E80315 : (u2 (u2 dt 79 17 0) 79 12 0) 80 = dt 80 := (funext fun _ => u2_ne (fun z => absurd z.1 (by decide))).trans E8015
        refine go_smp (L' := [some (.inr (.inr (some 79))), some (.inl p1), some (.inl p2), none]) (st' := []) (w' := (SH, (u2 (u2 dt 79 17 0) 79 12 0))) rfl rfl (s_pf rfl rfl rfl rfl ⟨by omega, by omega⟩) ?_
        refine go_to (k := 2) (pc' := 39) (L' := [some (.inr (.inr (some 79))), some (.inl p1), some (.inl p2), none]) (st' := [.inl 0, .inr (.inr (some 79))]) (w' := (SH, (u2 (u2 dt 79 17 0) 79 12 0))) (fun _ => rfl) ?_
        have hI316 : InvC (u2 (u2 (u2 dt 79 17 0) 79 12 0) 79 19 0) := InvC_u2 hI304 (lo := -2147483648) (hi := 2147483647) rfl rfl rfl (by omega) (by omega)
        have hF317 : Fr [79, 80, 82, 83, 84] dt (u2 (u2 (u2 dt 79 17 0) 79 12 0) 79 19 0) := Fr_u2 hF305 (by decide)
        have w318 : (u2 (u2 (u2 dt 79 17 0) 79 12 0) 79 19 0) 79 2 = (u2 (u2 dt 79 17 0) 79 12 0) 79 2 := rfl
        have w319 : (u2 (u2 (u2 dt 79 17 0) 79 12 0) 79 19 0) 79 9 = (u2 (u2 dt 79 17 0) 79 12 0) 79 9 := rfl
        have w320 : (u2 (u2 (u2 dt 79 17 0) 79 12 0) 79 19 0) 79 10 = (u2 (u2 dt 79 17 0) 79 12 0) 79 10 := rfl
        have w321 : (u2 (u2 (u2 dt 79 17 0) 79 12 0) 79 19 0) 79 11 = (u2 (u2 dt 79 17 0) 79 12 0) 79 11 := rfl
        have w322 : (u2 (u2 (u2 dt 79 17 0) 79 12 0) 79 19 0) 79 12 = (u2 (u2 dt 79 17 0) 79 12 0) 79 12 := rfl
        have w323 : (u2 (u2 (u2 dt 79 17 0) 79 12 0) 79 19 0) 79 13 = (u2 (u2 dt 79 17 0) 79 12 0) 79 13 := rfl
        have w324 : (u2 (u2 (u2 dt 79 17 0) 79 12 0) 79 19 0) 79 14 = (u2 (u2 dt 79 17 0) 79 12 0) 79 14 := rfl
        have w325 : (u2 (u2 (u2 dt 79 17 0) 79 12 0) 79 19 0) 79 15 = (u2 (u2 dt 79 17 0) 79 12 0) 79 15 := rfl
        have E84326 : (u2 (u2 (u2 dt 79 17 0) 79 12 0) 79 19 0) 84 = dt 84 := (funext fun _ => u2_ne (by omega)).trans E84314
        have E80327 : (u2 (u2 (u2 dt 79 17 0) 79 12 0) 79 19 0) 80 = dt 80 := (funext fun _ => u2_ne (fun z => absurd z.1 (by decide))).trans E80315
        refine go_smp (L' := [some (.inr (.inr (some 79))), some (.inl p1), some (.inl p2), none]) (st' := []) (w' := (SH, (u2 (u2 (u2 dt 79 17 0) 79 12 0) 79 19 0))) rfl rfl (s_pf rfl rfl rfl rfl ⟨by omega, by omega⟩) ?_
        refine go_to (k := 2) (pc' := 44) (L' := [some (.inr (.inr (some 79))), some (.inl p1), some (.inl p2), none]) (st' := [.inl (-1), .inr (.inr (some 79))]) (w' := (SH, (u2 (u2 (u2 dt 79 17 0) 79 12 0) 79 19 0))) (fun _ => rfl) ?_
        have hI328 : InvC (u2 (u2 (u2 (u2 dt 79 17 0) 79 12 0) 79 19 0) 79 21 (-1)) := InvC_u2 hI316 (lo := -2147483648) (hi := 2147483647) rfl rfl rfl (by omega) (by omega)
        have hF329 : Fr [79, 80, 82, 83, 84] dt (u2 (u2 (u2 (u2 dt 79 17 0) 79 12 0) 79 19 0) 79 21 (-1)) := Fr_u2 hF317 (by decide)
        have w330 : (u2 (u2 (u2 (u2 dt 79 17 0) 79 12 0) 79 19 0) 79 21 (-1)) 79 2 = (u2 (u2 (u2 dt 79 17 0) 79 12 0) 79 19 0) 79 2 := rfl
        have w331 : (u2 (u2 (u2 (u2 dt 79 17 0) 79 12 0) 79 19 0) 79 21 (-1)) 79 9 = (u2 (u2 (u2 dt 79 17 0) 79 12 0) 79 19 0) 79 9 := rfl
        have w332 : (u2 (u2 (u2 (u2 dt 79 17 0) 79 12 0) 79 19 0) 79 21 (-1)) 79 10 = (u2 (u2 (u2 dt 79 17 0) 79 12 0) 79 19 0) 79 10 := rfl
        have w333 : (u2 (u2 (u2 (u2 dt 79 17 0) 79 12 0) 79 19 0) 79 21 (-1)) 79 11 = (u2 (u2 (u2 dt 79 17 0) 79 12 0) 79 19 0) 79 11 := rfl
        have w334 : (u2 (u2 (u2 (u2 dt 79 17 0) 79 12 0) 79 19 0) 79 21 (-1)) 79 12 = (u2 (u2 (u2 dt 79 17 0) 79 12 0) 79 19 0) 79 12 := rfl
        have w335 : (u2 (u2 (u2 (u2 dt 79 17 0) 79 12 0) 79 19 0) 79 21 (-1)) 79 13 = (u2 (u2 (u2 dt 79 17 0) 79 12 0) 79 19 0) 79 13 := rfl
        have w336 : (u2 (u2 (u2 (u2 dt 79 17 0) 79 12 0) 79 19 0) 79 21 (-1)) 79 14 = (u2 (u2 (u2 dt 79 17 0) 79 12 0) 79 19 0) 79 14 := rfl
        have w337 : (u2 (u2 (u2 (u2 dt 79 17 0) 79 12 0) 79 19 0) 79 21 (-1)) 79 15 = (u2 (u2 (u2 dt 79 17 0) 79 12 0) 79 19 0) 79 15 := rfl
        have E84338 : (u2 (u2 (u2 (u2 dt 79 17 0) 79 12 0) 79 19 0) 79 21 (-1)) 84 = dt 84 := (funext fun _ => u2_ne (by omega)).trans E84326
        have E80339 : (u2 (u2 (u2 (u2 dt 79 17 0) 79 12 0) 79 19 0) 79 21 (-1)) 80 = dt 80 := (funext fun _ => u2_ne (fun z => absurd z.1 (by decide))).trans E80327
        refine go_smp (L' := [some (.inr (.inr (some 79))), some (.inl p1), some (.inl p2), none]) (st' := []) (w' := (SH, (u2 (u2 (u2 (u2 dt 79 17 0) 79 12 0) 79 19 0) 79 21 (-1)))) rfl rfl (s_pf rfl rfl rfl rfl ⟨by omega, by omega⟩) ?_
        refine go_ret (k := 2) (r := some (.inl (-1))) (w1 := (SH, (u2 (u2 (u2 (u2 dt 79 17 0) 79 12 0) 79 19 0) 79 21 (-1)))) (fun _ => rfl) ?_
        exact ⟨(u2 (u2 (u2 (u2 dt 79 17 0) 79 12 0) 79 19 0) 79 21 (-1)), rfl, hI328, hF329, ⟨_, rfl, ⟨by omega, by omega⟩, ⟨by first | trivial | omega, by first | trivial | omega, by first | assumption | exact hM, by first | rfl | exact congrFun E80339 0 | exact Eq.trans (by assumption) (congrFun E80339 0), by first | rfl | exact congrFun E80339 1 | exact Eq.trans (by assumption) (congrFun E80339 1), by first | rfl | exact congrFun E80339 2 | exact Eq.trans (by assumption) (congrFun E80339 2), by first | rfl | exact congrFun E80339 3 | exact Eq.trans (by assumption) (congrFun E80339 3), by first | rfl | exact congrFun E80339 4 | exact Eq.trans (by assumption) (congrFun E80339 4), by first | rfl | exact congrFun E80339 5 | exact Eq.trans (by assumption) (congrFun E80339 5), by first | exact fun _ _ => rfl | exact fun j hj => (hI j hj).trans (congrFun E80339 j) | exact fun j hj => congrFun E80339 j | exact fun j hj => Eq.trans (hI j hj) (congrFun (by assumption) j)⟩⟩⟩
    · skip
      refine go_to (k := 2) (pc' := 26) (L' := [some (.inr (.inr (some 79))), some (.inl p1), some (.inl p2), none]) (st' := [.inl 7, .inl 0, .inl p2]) (w' := (SH, (u2 dt 79 17 0))) (fun _ => rfl) ?_
      refine go_call (Q' := _) rfl rfl rfl rfl rfl (sp_X6_isIn L xs sio (d + 37) (u2 dt 79 17 0) hI4  p2 ⟨by omega, by omega⟩ 0 ⟨by omega, by omega⟩ 7 ⟨by omega, by omega⟩ ) ?_
      rintro _ _ ⟨rfl, h340⟩
      refine ⟨rfl, ?_⟩
      rcases h340 with ⟨rfl, h340⟩ | ⟨rfl, h340⟩
      · skip
        refine go_to (k := 3) (pc' := 51) (L' := [some (.inr (.inr (some 79))), some (.inl p1), some (.inl p2), none]) (st' := [.inl p1, .inr (.inr (some 79))]) (w' := (SH, (u2 dt 79 17 0))) (fun _ => rfl) ?_
        have hI341 : InvC (u2 (u2 dt 79 17 0) 79 9 p1) := InvC_u2 hI4 (lo := 0) (hi := 1) rfl rfl rfl (by omega) (by omega)
        have hF342 : Fr [79, 80, 82, 83, 84] dt (u2 (u2 dt 79 17 0) 79 9 p1) := Fr_u2 hF5 (by decide)
        have w343 : (u2 (u2 dt 79 17 0) 79 9 p1) 79 2 = (u2 dt 79 17 0) 79 2 := rfl
        have w344 : (u2 (u2 dt 79 17 0) 79 9 p1) 79 9 = p1 := rfl
        have w345 : (u2 (u2 dt 79 17 0) 79 9 p1) 79 10 = (u2 dt 79 17 0) 79 10 := rfl
        have w346 : (u2 (u2 dt 79 17 0) 79 9 p1) 79 11 = (u2 dt 79 17 0) 79 11 := rfl
        have w347 : (u2 (u2 dt 79 17 0) 79 9 p1) 79 12 = (u2 dt 79 17 0) 79 12 := rfl
        have w348 : (u2 (u2 dt 79 17 0) 79 9 p1) 79 13 = (u2 dt 79 17 0) 79 13 := rfl
        have w349 : (u2 (u2 dt 79 17 0) 79 9 p1) 79 14 = (u2 dt 79 17 0) 79 14 := rfl
        have w350 : (u2 (u2 dt 79 17 0) 79 9 p1) 79 15 = (u2 dt 79 17 0) 79 15 := rfl
        have E84351 : (u2 (u2 dt 79 17 0) 79 9 p1) 84 = dt 84 := (funext fun _ => u2_ne (by omega)).trans E8414
        have E80352 : (u2 (u2 dt 79 17 0) 79 9 p1) 80 = dt 80 := (funext fun _ => u2_ne (fun z => absurd z.1 (by decide))).trans E8015
        refine go_smp (L' := [some (.inr (.inr (some 79))), some (.inl p1), some (.inl p2), none]) (st' := []) (w' := (SH, (u2 (u2 dt 79 17 0) 79 9 p1))) rfl rfl (s_pf rfl rfl rfl rfl ⟨by omega, by omega⟩) ?_
        refine go_to (k := 2) (pc' := 56) (L' := [some (.inr (.inr (some 79))), some (.inl p1), some (.inl p2), none]) (st' := [.inl 0, .inr (.inr (some 79))]) (w' := (SH, (u2 (u2 dt 79 17 0) 79 9 p1))) (fun _ => rfl) ?_
        have hI353 : InvC (u2 (u2 (u2 dt 79 17 0) 79 9 p1) 79 13 0) := InvC_u2 hI341 (lo := 0) (hi := 501) rfl rfl rfl (by omega) (by omega)
        have hF354 : Fr [79, 80, 82, 83, 84] dt (u2 (u2 (u2 dt 79 17 0) 79 9 p1) 79 13 0) := Fr_u2 hF342 (by decide)
        have w355 : (u2 (u2 (u2 dt 79 17 0) 79 9 p1) 79 13 0) 79 2 = (u2 (u2 dt 79 17 0) 79 9 p1) 79 2 := rfl
        have w356 : (u2 (u2 (u2 dt 79 17 0) 79 9 p1) 79 13 0) 79 9 = (u2 (u2 dt 79 17 0) 79 9 p1) 79 9 := rfl
        have w357 : (u2 (u2 (u2 dt 79 17 0) 79 9 p1) 79 13 0) 79 10 = (u2 (u2 dt 79 17 0) 79 9 p1) 79 10 := rfl
        have w358 : (u2 (u2 (u2 dt 79 17 0) 79 9 p1) 79 13 0) 79 11 = (u2 (u2 dt 79 17 0) 79 9 p1) 79 11 := rfl
        have w359 : (u2 (u2 (u2 dt 79 17 0) 79 9 p1) 79 13 0) 79 12 = (u2 (u2 dt 79 17 0) 79 9 p1) 79 12 := rfl
        have w360 : (u2 (u2 (u2 dt 79 17 0) 79 9 p1) 79 13 0) 79 13 = 0 := rfl
        have w361 : (u2 (u2 (u2 dt 79 17 0) 79 9 p1) 79 13 0) 79 14 = (u2 (u2 dt 79 17 0) 79 9 p1) 79 14 := rfl
        have w362 : (u2 (u2 (u2 dt 79 17 0) 79 9 p1) 79 13 0) 79 15 = (u2 (u2 dt 79 17 0) 79 9 p1) 79 15 := rfl
        have E84363 : (u2 (u2 (u2 dt 79 17 0) 79 9 p1) 79 13 0) 84 = dt 84 := (funext fun _ => u2_ne (by omega)).trans E84351
        have E80364 : (u2 (u2 (u2 dt 79 17 0) 79 9 p1) 79 13 0) 80 = dt 80 := (funext fun _ => u2_ne (fun z => absurd z.1 (by decide))).trans E80352
        refine go_smp (L' := [some (.inr (.inr (some 79))), some (.inl p1), some (.inl p2), none]) (st' := []) (w' := (SH, (u2 (u2 (u2 dt 79 17 0) 79 9 p1) 79 13 0))) rfl rfl (s_pf rfl rfl rfl rfl ⟨by omega, by omega⟩) ?_
        refine go_to (k := 2) (pc' := 61) (L' := [some (.inr (.inr (some 79))), some (.inl p1), some (.inl p2), none]) (st' := [.inl 0, .inr (.inr (some 79))]) (w' := (SH, (u2 (u2 (u2 dt 79 17 0) 79 9 p1) 79 13 0))) (fun _ => rfl) ?_
        have hI365 : InvC (u2 (u2 (u2 (u2 dt 79 17 0) 79 9 p1) 79 13 0) 79 10 0) := InvC_u2 hI353 (lo := 0) (hi := 24) rfl rfl rfl (by omega) (by omega)
        have hF366 : Fr [79, 80, 82, 83, 84] dt (u2 (u2 (u2 (u2 dt 79 17 0) 79 9 p1) 79 13 0) 79 10 0) := Fr_u2 hF354 (by decide)
        have w367 : (u2 (u2 (u2 (u2 dt 79 17 0) 79 9 p1) 79 13 0) 79 10 0) 79 2 = (u2 (u2 (u2 dt 79 17 0) 79 9 p1) 79 13 0) 79 2 := rfl
        have w368 : (u2 (u2 (u2 (u2 dt 79 17 0) 79 9 p1) 79 13 0) 79 10 0) 79 9 = (u2 (u2 (u2 dt 79 17 0) 79 9 p1) 79 13 0) 79 9 := rfl
        have w369 : (u2 (u2 (u2 (u2 dt 79 17 0) 79 9 p1) 79 13 0) 79 10 0) 79 10 = 0 := rfl
        have w370 : (u2 (u2 (u2 (u2 dt 79 17 0) 79 9 p1) 79 13 0) 79 10 0) 79 11 = (u2 (u2 (u2 dt 79 17 0) 79 9 p1) 79 13 0) 79 11 := rfl
        have w371 : (u2 (u2 (u2 (u2 dt 79 17 0) 79 9 p1) 79 13 0) 79 10 0) 79 12 = (u2 (u2 (u2 dt 79 17 0) 79 9 p1) 79 13 0) 79 12 := rfl
        have w372 : (u2 (u2 (u2 (u2 dt 79 17 0) 79 9 p1) 79 13 0) 79 10 0) 79 13 = (u2 (u2 (u2 dt 79 17 0) 79 9 p1) 79 13 0) 79 13 := rfl
        have w373 : (u2 (u2 (u2 (u2 dt 79 17 0) 79 9 p1) 79 13 0) 79 10 0) 79 14 = (u2 (u2 (u2 dt 79 17 0) 79 9 p1) 79 13 0) 79 14 := rfl
        have w374 : (u2 (u2 (u2 (u2 dt 79 17 0) 79 9 p1) 79 13 0) 79 10 0) 79 15 = (u2 (u2 (u2 dt 79 17 0) 79 9 p1) 79 13 0) 79 15 := rfl
        have E84375 : (u2 (u2 (u2 (u2 dt 79 17 0) 79 9 p1) 79 13 0) 79 10 0) 84 = dt 84 := (funext fun _ => u2_ne (by omega)).trans E84363
        have E80376 : (u2 (u2 (u2 (u2 dt 79 17 0) 79 9 p1) 79 13 0) 79 10 0) 80 = dt 80 := (funext fun _ => u2_ne (fun z => absurd z.1 (by decide))).trans E80364
        refine go_smp (L' := [some (.inr (.inr (some 79))), some (.inl p1), some (.inl p2), none]) (st' := []) (w' := (SH, (u2 (u2 (u2 (u2 dt 79 17 0) 79 9 p1) 79 13 0) 79 10 0))) rfl rfl (s_pf rfl rfl rfl rfl ⟨by omega, by omega⟩) ?_
        refine go_to (k := 2) (pc' := 66) (L' := [some (.inr (.inr (some 79))), some (.inl p1), some (.inl p2), none]) (st' := [.inl 0, .inr (.inr (some 79))]) (w' := (SH, (u2 (u2 (u2 (u2 dt 79 17 0) 79 9 p1) 79 13 0) 79 10 0))) (fun _ => rfl) ?_
        have hI377 : InvC (u2 (u2 (u2 (u2 (u2 dt 79 17 0) 79 9 p1) 79 13 0) 79 10 0) 79 11 0) := InvC_u2 hI365 (lo := 0) (hi := 510) rfl rfl rfl (by omega) (by omega)
        have hF378 : Fr [79, 80, 82, 83, 84] dt (u2 (u2 (u2 (u2 (u2 dt 79 17 0) 79 9 p1) 79 13 0) 79 10 0) 79 11 0) := Fr_u2 hF366 (by decide)
        have w379 : (u2 (u2 (u2 (u2 (u2 dt 79 17 0) 79 9 p1) 79 13 0) 79 10 0) 79 11 0) 79 2 = (u2 (u2 (u2 (u2 dt 79 17 0) 79 9 p1) 79 13 0) 79 10 0) 79 2 := rfl
        have w380 : (u2 (u2 (u2 (u2 (u2 dt 79 17 0) 79 9 p1) 79 13 0) 79 10 0) 79 11 0) 79 9 = (u2 (u2 (u2 (u2 dt 79 17 0) 79 9 p1) 79 13 0) 79 10 0) 79 9 := rfl
        have w381 : (u2 (u2 (u2 (u2 (u2 dt 79 17 0) 79 9 p1) 79 13 0) 79 10 0) 79 11 0) 79 10 = (u2 (u2 (u2 (u2 dt 79 17 0) 79 9 p1) 79 13 0) 79 10 0) 79 10 := rfl
        have w382 : (u2 (u2 (u2 (u2 (u2 dt 79 17 0) 79 9 p1) 79 13 0) 79 10 0) 79 11 0) 79 11 = 0 := rfl
        have w383 : (u2 (u2 (u2 (u2 (u2 dt 79 17 0) 79 9 p1) 79 13 0) 79 10 0) 79 11 0) 79 12 = (u2 (u2 (u2 (u2 dt 79 17 0) 79 9 p1) 79 13 0) 79 10 0) 79 12 := rfl
        have w384 : (u2 (u2 (u2 (u2 (u2 dt 79 17 0) 79 9 p1) 79 13 0) 79 10 0) 79 11 0) 79 13 = (u2 (u2 (u2 (u2 dt 79 17 0) 79 9 p1) 79 13 0) 79 10 0) 79 13 := rfl
        have w385 : (u2 (u2 (u2 (u2 (u2 dt 79 17 0) 79 9 p1) 79 13 0) 79 10 0) 79 11 0) 79 14 = (u2 (u2 (u2 (u2 dt 79 17 0) 79 9 p1) 79 13 0) 79 10 0) 79 14 := rfl
        have w386 : (u2 (u2 (u2 (u2 (u2 dt 79 17 0) 79 9 p1) 79 13 0) 79 10 0) 79 11 0) 79 15 = (u2 (u2 (u2 (u2 dt 79 17 0) 79 9 p1) 79 13 0) 79 10 0) 79 15 := rfl
        have E84387 : (u2 (u2 (u2 (u2 (u2 dt 79 17 0) 79 9 p1) 79 13 0) 79 10 0) 79 11 0) 84 = dt 84 := (funext fun _ => u2_ne (by omega)).trans E84375
        have E80388 : (u2 (u2 (u2 (u2 (u2 dt 79 17 0) 79 9 p1) 79 13 0) 79 10 0) 79 11 0) 80 = dt 80 := (funext fun _ => u2_ne (fun z => absurd z.1 (by decide))).trans E80376
        refine go_smp (L' := [some (.inr (.inr (some 79))), some (.inl p1), some (.inl p2), none]) (st' := []) (w' := (SH, (u2 (u2 (u2 (u2 (u2 dt 79 17 0) 79 9 p1) 79 13 0) 79 10 0) 79 11 0))) rfl rfl (s_pf rfl rfl rfl rfl ⟨by omega, by omega⟩) ?_
        refine go_to (k := 1) (pc' := 70) (L' := [some (.inr (.inr (some 79))), some (.inl p1), some (.inl p2), none]) (st' := [.inr (.inr (some 79))]) (w' := (SH, (u2 (u2 (u2 (u2 (u2 dt 79 17 0) 79 9 p1) 79 13 0) 79 10 0) 79 11 0))) (fun _ => rfl) ?_
        refine go_call (Q' := _) rfl rfl rfl rfl rfl (sp_X6_next0 L xs sio (d + 31) (u2 (u2 (u2 (u2 (u2 dt 79 17 0) 79 9 p1) 79 13 0) 79 10 0) 79 11 0) hI377   (by first | trivial | omega | exact hI4 (by omega) (by omega) | exact hI5 (by omega) (by omega))) ?_
        rintro _ _ ⟨dt390, rfl, hI391, hF392, h389⟩
        refine ⟨rfl, ?_⟩
        have hF393 : Fr [79, 80, 82, 83, 84] dt dt390 := Fr_tr hF378 hF392 (by decide)
        have hM394 : MW (dt390 80) := MW_fr (d0 := (u2 (u2 (u2 (u2 (u2 dt 79 17 0) 79 9 p1) 79 13 0) 79 10 0) 79 11 0)) hM hF392 (by decide)
        have E80395 : dt390 80 = dt 80 := (funext (hF392 80 (by decide))).trans E80388
        have E84396 : dt390 84 = dt 84 := (funext (hF392 84 (by decide))).trans E84387
        rcases h389 with ⟨rfl, h389⟩
        obtain ⟨h389_0, h389_1, h389_2, h389_3, h389_4, h389_5, h389_6, h389_7, h389_8⟩ := h389
        refine go_to (k := 2) (pc' := 75) (L' := [some (.inr (.inr (some 79))), some (.inl p1), some (.inl p2), some (.inl 1)]) (st' := []) (w' := (SH, dt390)) (fun _ => rfl) ?_
        have loop483 : ∀ (k_ : Nat) (l75_3 : Int) (dt470 : Nat → Nat → Int) (hI471 : InvC dt470) (hF472 : Fr [79, 80, 82, 83, 84] dt dt470) (hM_dt470 : MW (dt470 80)) (i473 : 0 ≤ l75_3 ∧ l75_3 ≤ 1) (i474 : l75_3 = 1 → (¬ dt470 79 14 = 0 → dt470 79 15 + 1 ≤ dt470 79 13) ∧ dt470 79 13 ≤ 500) (i475 : dt470 79 15 ≤ 500) (i476 : l75_3 = 1 → dt470 79 11 ≤ dt470 79 15) (i477 : l75_3 = 1 → p1 = 1 → dt470 79 10 ≤ 16) (i478 : l75_3 = 1 → p1 = 0 → ARW (dt470 82) (dt470 79 10)) (i479 : l75_3 = 1 → p1 = 1 → LRW (dt470 83) (dt470 84) (dt470 79 10) (dt470 79 11)) (i480 : dt470 79 2 = dt 79 2) (i481 : dt470 79 9 = p1) (i482 : dt470 80 = dt 80), (l75_3 * (502 - dt470 79 15)).toNat < k_ → GO (am_XX L xs sio) (d + 38) 174 75 [some (.inr (.inr (some 79))), some (.inl p1), some (.inl p2), some (.inl l75_3)] [] (SH, dt470) (fun r w2 => ∃ dt2 : Nat → Nat → Int, w2 = (SH, dt2) ∧ InvC dt2 ∧ Fr [79, 80, 82, 83, 84] dt dt2 ∧ ((∃ v : Int, r = some (.inl v) ∧ ((-1) ≤ v ∧ v ≤ 24) ∧ (dt2 79 12 = 0) ∧ (dt2 79 2 = dt 79 2) ∧ (MW (dt2 80)) ∧ (dt2 80 0 = dt 80 0) ∧ (dt2 80 1 = dt 80 1) ∧ (dt2 80 2 = dt 80 2) ∧ (dt2 80 3 = dt 80 3) ∧ (dt2 80 4 = dt 80 4) ∧ (dt2 80 5 = dt 80 5) ∧ (∀ j : Nat, (j = 1 ∨ 5320 ≤ j) → dt2 80 j = dt 80 j)))) := by
          intro k_
          induction k_ with
          | zero => intro l75_3 dt470 hI471 hF472 hM_dt470 i473 i474 i475 i476 i477 i478 i479 i480 i481 i482 hm; exact absurd hm (Nat.not_lt_zero _)
          | succ k_ ih_loop483 =>
            intro l75_3 dt470 hI471 hF472 hM_dt470 i473 i474 i475 i476 i477 i478 i479 i480 i481 i482 hm
            have q10 : 0 ≤ dt470 79 10 ∧ dt470 79 10 ≤ 24 := InvC_get (by assumption) 79 10 rfl rfl
            have q11 : 0 ≤ dt470 79 11 ∧ dt470 79 11 ≤ 510 := InvC_get (by assumption) 79 11 rfl rfl
            have hE80 := i482
            have hI4 := i478
            have hI5 := i479
            have hm1 : l75_3 = 1 → (l75_3 * (502 - dt470 79 15)).toNat = (502 - dt470 79 15).toNat := fun e => by rw [e, Int.one_mul]
            refine go_if (k := 2) (p1 := 123) (p2 := 79) (L' := [some (.inr (.inr (some 79))), some (.inl p1), some (.inl p2), some (.inl l75_3)]) (st' := []) (w' := (SH, dt470)) (fun _ => rfl) (z_eq (a := l75_3) ⟨by omega, by omega⟩) (fun c484 => ?_) (fun c484 => ?_)
            · skip
              refine go_to (k := 2) (pc' := 125) (L' := [some (.inr (.inr (some 79))), some (.inl p1), some (.inl p2), some (.inl l75_3)]) (st' := [.inl 0, .inr (.inr (some 79))]) (w' := (SH, dt470)) (fun _ => rfl) ?_
              have hI485 : InvC (u2 dt470 79 12 0) := InvC_u2 hI471 (lo := 0) (hi := 500) rfl rfl rfl (by omega) (by omega)
              have hF486 : Fr [79, 80, 82, 83, 84] dt (u2 dt470 79 12 0) := Fr_u2 hF472 (by decide)
              have w487 : (u2 dt470 79 12 0) 79 2 = dt470 79 2 := rfl
              have w488 : (u2 dt470 79 12 0) 79 9 = dt470 79 9 := rfl
              have w489 : (u2 dt470 79 12 0) 79 10 = dt470 79 10 := rfl
              have w490 : (u2 dt470 79 12 0) 79 11 = dt470 79 11 := rfl
              have w491 : (u2 dt470 79 12 0) 79 12 = 0 := rfl
              have w492 : (u2 dt470 79 12 0) 79 13 = dt470 79 13 := rfl
              have w493 : (u2 dt470 79 12 0) 79 14 = dt470 79 14 := rfl
              have w494 : (u2 dt470 79 12 0) 79 15 = dt470 79 15 := rfl
              have E84495 : (u2 dt470 79 12 0) 84 = dt470 84 := funext fun _ => u2_ne (by omega)
              have E80496 : (u2 dt470 79 12 0) 80 = dt 80 := (funext fun _ => u2_ne (fun z => absurd z.1 (by decide))).trans hE80
              refine go_smp (L' := [some (.inr (.inr (some 79))), some (.inl p1), some (.inl p2), some (.inl l75_3)]) (st' := []) (w' := (SH, (u2 dt470 79 12 0))) rfl rfl (s_pf rfl rfl rfl rfl ⟨by omega, by omega⟩) ?_
              have r497 : (-2147483648) ≤ dt470 79 17 ∧ dt470 79 17 ≤ 2147483647 := InvC_get hI471 79 17 rfl rfl
              refine go_to (k := 3) (pc' := 133) (L' := [some (.inr (.inr (some 79))), some (.inl p1), some (.inl p2), some (.inl l75_3)]) (st' := [.inl (dt470 79 17), .inr (.inr (some 79))]) (w' := (SH, (u2 dt470 79 12 0))) (fun _ => rfl) ?_
              have hI498 : InvC (u2 (u2 dt470 79 12 0) 79 19 (dt470 79 17)) := InvC_u2 hI485 (lo := -2147483648) (hi := 2147483647) rfl rfl rfl (by omega) (by omega)
              have hF499 : Fr [79, 80, 82, 83, 84] dt (u2 (u2 dt470 79 12 0) 79 19 (dt470 79 17)) := Fr_u2 hF486 (by decide)
              have w500 : (u2 (u2 dt470 79 12 0) 79 19 (dt470 79 17)) 79 2 = (u2 dt470 79 12 0) 79 2 := rfl
              have w501 : (u2 (u2 dt470 79 12 0) 79 19 (dt470 79 17)) 79 9 = (u2 dt470 79 12 0) 79 9 := rfl
              have w502 : (u2 (u2 dt470 79 12 0) 79 19 (dt470 79 17)) 79 10 = (u2 dt470 79 12 0) 79 10 := rfl
              have w503 : (u2 (u2 dt470 79 12 0) 79 19 (dt470 79 17)) 79 11 = (u2 dt470 79 12 0) 79 11 := rfl
              have w504 : (u2 (u2 dt470 79 12 0) 79 19 (dt470 79 17)) 79 12 = (u2 dt470 79 12 0) 79 12 := rfl
              have w505 : (u2 (u2 dt470 79 12 0) 79 19 (dt470 79 17)) 79 13 = (u2 dt470 79 12 0) 79 13 := rfl
              have w506 : (u2 (u2 dt470 79 12 0) 79 19 (dt470 79 17)) 79 14 = (u2 dt470 79 12 0) 79 14 := rfl
              have w507 : (u2 (u2 dt470 79 12 0) 79 19 (dt470 79 17)) 79 15 = (u2 dt470 79 12 0) 79 15 := rfl
              have E84508 : (u2 (u2 dt470 79 12 0) 79 19 (dt470 79 17)) 84 = dt470 84 := (funext fun _ => u2_ne (by omega)).trans E84495
              have E80509 : (u2 (u2 dt470 79 12 0) 79 19 (dt470 79 17)) 80 = dt 80 := (funext fun _ => u2_ne (fun z => absurd z.1 (by decide))).trans E80496
              refine go_smp (L' := [some (.inr (.inr (some 79))), some (.inl p1), some (.inl p2), some (.inl l75_3)]) (st' := []) (w' := (SH, (u2 (u2 dt470 79 12 0) 79 19 (dt470 79 17)))) rfl rfl (s_pf rfl rfl rfl rfl ⟨by omega, by omega⟩) ?_
              refine go_if (k := 3) (p1 := 145) (p2 := 141) (L' := [some (.inr (.inr (some 79))), some (.inl p1), some (.inl p2), some (.inl l75_3)]) (st' := [.inr (.inr (some 79))]) (w' := (SH, (u2 (u2 dt470 79 12 0) 79 19 (dt470 79 17)))) (fun _ => rfl) (z_eq (a := l75_3) ⟨by omega, by omega⟩) (fun c510 => ?_) (fun c510 => ?_)
              · skip
                have r511 : (-2147483648) ≤ dt470 79 18 ∧ dt470 79 18 ≤ 2147483647 := InvC_get hI471 79 18 rfl rfl
                refine go_to (k := 2) (pc' := 149) (L' := [some (.inr (.inr (some 79))), some (.inl p1), some (.inl p2), some (.inl l75_3)]) (st' := [.inl (dt470 79 18), .inr (.inr (some 79))]) (w' := (SH, (u2 (u2 dt470 79 12 0) 79 19 (dt470 79 17)))) (fun _ => rfl) ?_
                have hI512 : InvC (u2 (u2 (u2 dt470 79 12 0) 79 19 (dt470 79 17)) 79 21 (dt470 79 18)) := InvC_u2 hI498 (lo := -2147483648) (hi := 2147483647) rfl rfl rfl (by omega) (by omega)
                have hF513 : Fr [79, 80, 82, 83, 84] dt (u2 (u2 (u2 dt470 79 12 0) 79 19 (dt470 79 17)) 79 21 (dt470 79 18)) := Fr_u2 hF499 (by decide)
                have w514 : (u2 (u2 (u2 dt470 79 12 0) 79 19 (dt470 79 17)) 79 21 (dt470 79 18)) 79 2 = (u2 (u2 dt470 79 12 0) 79 19 (dt470 79 17)) 79 2 := rfl
                have w515 : (u2 (u2 (u2 dt470 79 12 0) 79 19 (dt470 79 17)) 79 21 (dt470 79 18)) 79 9 = (u2 (u2 dt470 79 12 0) 79 19 (dt470 79 17)) 79 9 := rfl
                have w516 : (u2 (u2 (u2 dt470 79 12 0) 79 19 (dt470 79 17)) 79 21 (dt470 79 18)) 79 10 = (u2 (u2 dt470 79 12 0) 79 19 (dt470 79 17)) 79 10 := rfl
                have w517 : (u2 (u2 (u2 dt470 79 12 0) 79 19 (dt470 79 17)) 79 21 (dt470 79 18)) 79 11 = (u2 (u2 dt470 79 12 0) 79 19 (dt470 79 17)) 79 11 := rfl
                have w518 : (u2 (u2 (u2 dt470 79 12 0) 79 19 (dt470 79 17)) 79 21 (dt470 79 18)) 79 12 = (u2 (u2 dt470 79 12 0) 79 19 (dt470 79 17)) 79 12 := rfl
                have w519 : (u2 (u2 (u2 dt470 79 12 0) 79 19 (dt470 79 17)) 79 21 (dt470 79 18)) 79 13 = (u2 (u2 dt470 79 12 0) 79 19 (dt470 79 17)) 79 13 := rfl
                have w520 : (u2 (u2 (u2 dt470 79 12 0) 79 19 (dt470 79 17)) 79 21 (dt470 79 18)) 79 14 = (u2 (u2 dt470 79 12 0) 79 19 (dt470 79 17)) 79 14 := rfl
                have w521 : (u2 (u2 (u2 dt470 79 12 0) 79 19 (dt470 79 17)) 79 21 (dt470 79 18)) 79 15 = (u2 (u2 dt470 79 12 0) 79 19 (dt470 79 17)) 79 15 := rfl
                have E84522 : (u2 (u2 (u2 dt470 79 12 0) 79 19 (dt470 79 17)) 79 21 (dt470 79 18)) 84 = dt470 84 := (funext fun _ => u2_ne (by omega)).trans E84508
                have E80523 : (u2 (u2 (u2 dt470 79 12 0) 79 19 (dt470 79 17)) 79 21 (dt470 79 18)) 80 = dt 80 := (funext fun _ => u2_ne (fun z => absurd z.1 (by decide))).trans E80509
                refine go_smp (L' := [some (.inr (.inr (some 79))), some (.inl p1), some (.inl p2), some (.inl l75_3)]) (st' := []) (w' := (SH, (u2 (u2 (u2 dt470 79 12 0) 79 19 (dt470 79 17)) 79 21 (dt470 79 18)))) rfl rfl (s_pf rfl rfl rfl rfl ⟨by omega, by omega⟩) ?_
                refine go_if (k := 2) (p1 := 158) (p2 := 156) (L' := [some (.inr (.inr (some 79))), some (.inl p1), some (.inl p2), some (.inl l75_3)]) (st' := []) (w' := (SH, (u2 (u2 (u2 dt470 79 12 0) 79 19 (dt470 79 17)) 79 21 (dt470 79 18)))) (fun _ => rfl) (z_ne (a := l75_3) ⟨by omega, by omega⟩) (fun c524 => ?_) (fun c524 => ?_)
                · skip
                  refine go_to (k := 2) (pc' := 160) (L' := [some (.inr (.inr (some 79))), some (.inl p1), some (.inl p2), some (.inl l75_3)]) (st' := [.inl p2, .inr (.inr (some 79))]) (w' := (SH, (u2 (u2 (u2 dt470 79 12 0) 79 19 (dt470 79 17)) 79 21 (dt470 79 18)))) (fun _ => rfl) ?_
                  refine go_call (Q' := _) rfl rfl rfl rfl rfl (sp_X6_keeps_q0 L xs sio (d + 37) (u2 (u2 (u2 dt470 79 12 0) 79 19 (dt470 79 17)) 79 21 (dt470 79 18)) hI512 hM_dt470  p2 ⟨by omega, by omega⟩ (by first | trivial | omega | exact hI4 (by omega) (by omega) | exact hI5 (by omega) (by omega)) (by first | trivial | omega | exact hI4 (by omega) (by omega) | exact hI5 (by omega) (by omega)) (by first | trivial | omega | exact hI4 (by omega) (by omega) | exact hI5 (by omega) (by omega))) ?_
                  rintro _ _ ⟨dt526, rfl, hI527, hF528, h525⟩
                  refine ⟨rfl, ?_⟩
                  have hF529 : Fr [79, 80, 82, 83, 84] dt dt526 := Fr_tr hF513 hF528 (by decide)
                  have w530 : dt526 79 2 = (u2 (u2 (u2 dt470 79 12 0) 79 19 (dt470 79 17)) 79 21 (dt470 79 18)) 79 2 := hF528 79 (by decide) 2
                  have w531 : dt526 79 9 = (u2 (u2 (u2 dt470 79 12 0) 79 19 (dt470 79 17)) 79 21 (dt470 79 18)) 79 9 := hF528 79 (by decide) 9
                  have w532 : dt526 79 10 = (u2 (u2 (u2 dt470 79 12 0) 79 19 (dt470 79 17)) 79 21 (dt470 79 18)) 79 10 := hF528 79 (by decide) 10
                  have w533 : dt526 79 11 = (u2 (u2 (u2 dt470 79 12 0) 79 19 (dt470 79 17)) 79 21 (dt470 79 18)) 79 11 := hF528 79 (by decide) 11
                  have w534 : dt526 79 12 = (u2 (u2 (u2 dt470 79 12 0) 79 19 (dt470 79 17)) 79 21 (dt470 79 18)) 79 12 := hF528 79 (by decide) 12
                  have w535 : dt526 79 13 = (u2 (u2 (u2 dt470 79 12 0) 79 19 (dt470 79 17)) 79 21 (dt470 79 18)) 79 13 := hF528 79 (by decide) 13
                  have w536 : dt526 79 14 = (u2 (u2 (u2 dt470 79 12 0) 79 19 (dt470 79 17)) 79 21 (dt470 79 18)) 79 14 := hF528 79 (by decide) 14
                  have w537 : dt526 79 15 = (u2 (u2 (u2 dt470 79 12 0) 79 19 (dt470 79 17)) 79 21 (dt470 79 18)) 79 15 := hF528 79 (by decide) 15
                  have E84538 : dt526 84 = dt470 84 := (funext (hF528 84 (by decide))).trans E84522
                  rcases h525 with ⟨rfl, h525⟩
                  have hM539 : MW (dt526 80) := h525.1
                  obtain ⟨h525_0, h525_1, h525_2, h525_3, h525_4, h525_5, h525_6, h525_7⟩ := h525
                  have r540 : 0 ≤ dt526 79 10 ∧ dt526 79 10 ≤ 24 := InvC_get hI527 79 10 rfl rfl
                  refine go_ret (k := 3) (r := some (.inl (dt526 79 10))) (w1 := (SH, dt526)) (fun _ => rfl) ?_
                  exact ⟨dt526, rfl, hI527, hF529, ⟨_, rfl, ⟨by omega, by omega⟩, ⟨by first | trivial | omega, by first | trivial | omega, by first | assumption | exact hM, by first | rfl | exact congrFun E80523 0 | exact Eq.trans (by assumption) (congrFun E80523 0), by first | rfl | exact congrFun E80523 1 | exact Eq.trans (by assumption) (congrFun E80523 1), by first | rfl | exact congrFun E80523 2 | exact Eq.trans (by assumption) (congrFun E80523 2), by first | rfl | exact congrFun E80523 3 | exact Eq.trans (by assumption) (congrFun E80523 3), by first | rfl | exact congrFun E80523 4 | exact Eq.trans (by assumption) (congrFun E80523 4), by first | rfl | exact congrFun E80523 5 | exact Eq.trans (by assumption) (congrFun E80523 5), by first | exact fun _ _ => rfl | exact fun j hj => (h525_7 j hj).trans (congrFun E80523 j) | exact fun j hj => congrFun E80523 j | exact fun j hj => Eq.trans (h525_7 j hj) (congrFun (by assumption) j)⟩⟩⟩
                · skip
                  refine go_ret (k := 2) (r := some (.inl (-1))) (w1 := (SH, (u2 (u2 (u2 dt470 79 12 0) 79 19 (dt470 79 17)) 79 21 (dt470 79 18)))) (fun _ => rfl) ?_
                  exact ⟨(u2 (u2 (u2 dt470 79 12 0) 79 19 (dt470 79 17)) 79 21 (dt470 79 18)), rfl, hI512, hF513, ⟨_, rfl, ⟨by omega, by omega⟩, ⟨by first | trivial | omega, by first | trivial | omega, by first | assumption | exact hM, by first | rfl | exact congrFun E80523 0 | exact Eq.trans (by assumption) (congrFun E80523 0), by first | rfl | exact congrFun E80523 1 | exact Eq.trans (by assumption) (congrFun E80523 1), by first | rfl | exact congrFun E80523 2 | exact Eq.trans (by assumption) (congrFun E80523 2), by first | rfl | exact congrFun E80523 3 | exact Eq.trans (by assumption) (congrFun E80523 3), by first | rfl | exact congrFun E80523 4 | exact Eq.trans (by assumption) (congrFun E80523 4), by first | rfl | exact congrFun E80523 5 | exact Eq.trans (by assumption) (congrFun E80523 5), by first | exact fun _ _ => rfl | exact fun j hj => (hI j hj).trans (congrFun E80523 j) | exact fun j hj => congrFun E80523 j | exact fun j hj => Eq.trans (hI j hj) (congrFun (by assumption) j)⟩⟩⟩
              · skip
                refine go_to (k := 2) (pc' := 149) (L' := [some (.inr (.inr (some 79))), some (.inl p1), some (.inl p2), some (.inl l75_3)]) (st' := [.inl (-1), .inr (.inr (some 79))]) (w' := (SH, (u2 (u2 dt470 79 12 0) 79 19 (dt470 79 17)))) (fun _ => rfl) ?_
                have hI541 : InvC (u2 (u2 (u2 dt470 79 12 0) 79 19 (dt470 79 17)) 79 21 (-1)) := InvC_u2 hI498 (lo := -2147483648) (hi := 2147483647) rfl rfl rfl (by omega) (by omega)
                have hF542 : Fr [79, 80, 82, 83, 84] dt (u2 (u2 (u2 dt470 79 12 0) 79 19 (dt470 79 17)) 79 21 (-1)) := Fr_u2 hF499 (by decide)
                have w543 : (u2 (u2 (u2 dt470 79 12 0) 79 19 (dt470 79 17)) 79 21 (-1)) 79 2 = (u2 (u2 dt470 79 12 0) 79 19 (dt470 79 17)) 79 2 := rfl
                have w544 : (u2 (u2 (u2 dt470 79 12 0) 79 19 (dt470 79 17)) 79 21 (-1)) 79 9 = (u2 (u2 dt470 79 12 0) 79 19 (dt470 79 17)) 79 9 := rfl
                have w545 : (u2 (u2 (u2 dt470 79 12 0) 79 19 (dt470 79 17)) 79 21 (-1)) 79 10 = (u2 (u2 dt470 79 12 0) 79 19 (dt470 79 17)) 79 10 := rfl
                have w546 : (u2 (u2 (u2 dt470 79 12 0) 79 19 (dt470 79 17)) 79 21 (-1)) 79 11 = (u2 (u2 dt470 79 12 0) 79 19 (dt470 79 17)) 79 11 := rfl
                have w547 : (u2 (u2 (u2 dt470 79 12 0) 79 19 (dt470 79 17)) 79 21 (-1)) 79 12 = (u2 (u2 dt470 79 12 0) 79 19 (dt470 79 17)) 79 12 := rfl
                have w548 : (u2 (u2 (u2 dt470 79 12 0) 79 19 (dt470 79 17)) 79 21 (-1)) 79 13 = (u2 (u2 dt470 79 12 0) 79 19 (dt470 79 17)) 79 13 := rfl
                have w549 : (u2 (u2 (u2 dt470 79 12 0) 79 19 (dt470 79 17)) 79 21 (-1)) 79 14 = (u2 (u2 dt470 79 12 0) 79 19 (dt470 79 17)) 79 14 := rfl
                have w550 : (u2 (u2 (u2 dt470 79 12 0) 79 19 (dt470 79 17)) 79 21 (-1)) 79 15 = (u2 (u2 dt470 79 12 0) 79 19 (dt470 79 17)) 79 15 := rfl
                have E84551 : (u2 (u2 (u2 dt470 79 12 0) 79 19 (dt470 79 17)) 79 21 (-1)) 84 = dt470 84 := (funext fun _ => u2_ne (by omega)).trans E84508
                have E80552 : (u2 (u2 (u2 dt470 79 12 0) 79 19 (dt470 79 17)) 79 21 (-1)) 80 = dt 80 := (funext fun _ => u2_ne (fun z => absurd z.1 (by decide))).trans E80509
                refine go_smp (L' := [some (.inr (.inr (some 79))), some (.inl p1), some (.inl p2), some (.inl l75_3)]) (st' := []) (w' := (SH, (u2 (u2 (u2 dt470 79 12 0) 79 19 (dt470 79 17)) 79 21 (-1)))) rfl rfl (s_pf rfl rfl rfl rfl ⟨by omega, by omega⟩) ?_
                refine go_if (k := 2) (p1 := 158) (p2 := 156) (L' := [some (.inr (.inr (some 79))), some (.inl p1), some (.inl p2), some (.inl l75_3)]) (st' := []) (w' := (SH, (u2 (u2 (u2 dt470 79 12 0) 79 19 (dt470 79 17)) 79 21 (-1)))) (fun _ => rfl) (z_ne (a := l75_3) ⟨by omega, by omega⟩) (fun c553 => ?_) (fun c553 => ?_)
                · skip
                  refine go_to (k := 2) (pc' := 160) (L' := [some (.inr (.inr (some 79))), some (.inl p1), some (.inl p2), some (.inl l75_3)]) (st' := [.inl p2, .inr (.inr (some 79))]) (w' := (SH, (u2 (u2 (u2 dt470 79 12 0) 79 19 (dt470 79 17)) 79 21 (-1)))) (fun _ => rfl) ?_
                  refine go_call (Q' := _) rfl rfl rfl rfl rfl (sp_X6_keeps_q0 L xs sio (d + 37) (u2 (u2 (u2 dt470 79 12 0) 79 19 (dt470 79 17)) 79 21 (-1)) hI541 hM_dt470  p2 ⟨by omega, by omega⟩ (by first | trivial | omega | exact hI4 (by omega) (by omega) | exact hI5 (by omega) (by omega)) (by first | trivial | omega | exact hI4 (by omega) (by omega) | exact hI5 (by omega) (by omega)) (by first | trivial | omega | exact hI4 (by omega) (by omega) | exact hI5 (by omega) (by omega))) ?_
                  rintro _ _ ⟨dt555, rfl, hI556, hF557, h554⟩
                  refine ⟨rfl, ?_⟩
                  have hF558 : Fr [79, 80, 82, 83, 84] dt dt555 := Fr_tr hF542 hF557 (by decide)
                  have w559 : dt555 79 2 = (u2 (u2 (u2 dt470 79 12 0) 79 19 (dt470 79 17)) 79 21 (-1)) 79 2 := hF557 79 (by decide) 2
                  have w560 : dt555 79 9 = (u2 (u2 (u2 dt470 79 12 0) 79 19 (dt470 79 17)) 79 21 (-1)) 79 9 := hF557 79 (by decide) 9
                  have w561 : dt555 79 10 = (u2 (u2 (u2 dt470 79 12 0) 79 19 (dt470 79 17)) 79 21 (-1)) 79 10 := hF557 79 (by decide) 10
                  have w562 : dt555 79 11 = (u2 (u2 (u2 dt470 79 12 0) 79 19 (dt470 79 17)) 79 21 (-1)) 79 11 := hF557 79 (by decide) 11
                  have w563 : dt555 79 12 = (u2 (u2 (u2 dt470 79 12 0) 79 19 (dt470 79 17)) 79 21 (-1)) 79 12 := hF557 79 (by decide) 12
                  have w564 : dt555 79 13 = (u2 (u2 (u2 dt470 79 12 0) 79 19 (dt470 79 17)) 79 21 (-1)) 79 13 := hF557 79 (by decide) 13
                  have w565 : dt555 79 14 = (u2 (u2 (u2 dt470 79 12 0) 79 19 (dt470 79 17)) 79 21 (-1)) 79 14 := hF557 79 (by decide) 14
                  have w566 : dt555 79 15 = (u2 (u2 (u2 dt470 79 12 0) 79 19 (dt470 79 17)) 79 21 (-1)) 79 15 := hF557 79 (by decide) 15
                  have E84567 : dt555 84 = dt470 84 := (funext (hF557 84 (by decide))).trans E84551
                  rcases h554 with ⟨rfl, h554⟩
                  have hM568 : MW (dt555 80) := h554.1
                  obtain ⟨h554_0, h554_1, h554_2, h554_3, h554_4, h554_5, h554_6, h554_7⟩ := h554
                  have r569 : 0 ≤ dt555 79 10 ∧ dt555 79 10 ≤ 24 := InvC_get hI556 79 10 rfl rfl
                  refine go_ret (k := 3) (r := some (.inl (dt555 79 10))) (w1 := (SH, dt555)) (fun _ => rfl) ?_
                  exact ⟨dt555, rfl, hI556, hF558, ⟨_, rfl, ⟨by omega, by omega⟩, ⟨by first | trivial | omega, by first | trivial | omega, by first | assumption | exact hM, by first | rfl | exact congrFun E80552 0 | exact Eq.trans (by assumption) (congrFun E80552 0), by first | rfl | exact congrFun E80552 1 | exact Eq.trans (by assumption) (congrFun E80552 1), by first | rfl | exact congrFun E80552 2 | exact Eq.trans (by assumption) (congrFun E80552 2), by first | rfl | exact congrFun E80552 3 | exact Eq.trans (by assumption) (congrFun E80552 3), by first | rfl | exact congrFun E80552 4 | exact Eq.trans (by assumption) (congrFun E80552 4), by first | rfl | exact congrFun E80552 5 | exact Eq.trans (by assumption) (congrFun E80552 5), by first | exact fun _ _ => rfl | exact fun j hj => (h554_7 j hj).trans (congrFun E80552 j) | exact fun j hj => congrFun E80552 j | exact fun j hj => Eq.trans (h554_7 j hj) (congrFun (by assumption) j)⟩⟩⟩
                · exfalso; omega
            · skip
              have hc570 : l75_3 = 1 := by omega
              subst hc570
              have r571 : (-2147483648) ≤ dt470 79 14 ∧ dt470 79 14 ≤ 2147483647 := InvC_get hI471 79 14 rfl rfl
              refine go_if (k := 3) (p1 := 123) (p2 := 86) (L' := [some (.inr (.inr (some 79))), some (.inl p1), some (.inl p2), some (.inl 1)]) (st' := []) (w' := (SH, dt470)) (fun _ => rfl) (z_eq (a := dt470 79 14) ⟨by omega, by omega⟩) (fun c572 => ?_) (fun c572 => ?_)
              · skip
                refine go_to (k := 2) (pc' := 125) (L' := [some (.inr (.inr (some 79))), some (.inl p1), some (.inl p2), some (.inl 1)]) (st' := [.inl 0, .inr (.inr (some 79))]) (w' := (SH, dt470)) (fun _ => rfl) ?_
                have hI573 : InvC (u2 dt470 79 12 0) := InvC_u2 hI471 (lo := 0) (hi := 500) rfl rfl rfl (by omega) (by omega)
                have hF574 : Fr [79, 80, 82, 83, 84] dt (u2 dt470 79 12 0) := Fr_u2 hF472 (by decide)
                have w575 : (u2 dt470 79 12 0) 79 2 = dt470 79 2 := rfl
                have w576 : (u2 dt470 79 12 0) 79 9 = dt470 79 9 := rfl
                have w577 : (u2 dt470 79 12 0) 79 10 = dt470 79 10 := rfl
                have w578 : (u2 dt470 79 12 0) 79 11 = dt470 79 11 := rfl
                have w579 : (u2 dt470 79 12 0) 79 12 = 0 := rfl
                have w580 : (u2 dt470 79 12 0) 79 13 = dt470 79 13 := rfl
                have w581 : (u2 dt470 79 12 0) 79 14 = dt470 79 14 := rfl
                have w582 : (u2 dt470 79 12 0) 79 15 = dt470 79 15 := rfl
                have E84583 : (u2 dt470 79 12 0) 84 = dt470 84 := funext fun _ => u2_ne (by omega)
                have E80584 : (u2 dt470 79 12 0) 80 = dt 80 := (funext fun _ => u2_ne (fun z => absurd z.1 (by decide))).trans hE80
                refine go_smp (L' := [some (.inr (.inr (some 79))), some (.inl p1), some (.inl p2), some (.inl 1)]) (st' := []) (w' := (SH, (u2 dt470 79 12 0))) rfl rfl (s_pf rfl rfl rfl rfl ⟨by omega, by omega⟩) ?_
                have r585 : (-2147483648) ≤ dt470 79 17 ∧ dt470 79 17 ≤ 2147483647 := InvC_get hI471 79 17 rfl rfl
                refine go_to (k := 3) (pc' := 133) (L' := [some (.inr (.inr (some 79))), some (.inl p1), some (.inl p2), some (.inl 1)]) (st' := [.inl (dt470 79 17), .inr (.inr (some 79))]) (w' := (SH, (u2 dt470 79 12 0))) (fun _ => rfl) ?_
                have hI586 : InvC (u2 (u2 dt470 79 12 0) 79 19 (dt470 79 17)) := InvC_u2 hI573 (lo := -2147483648) (hi := 2147483647) rfl rfl rfl (by omega) (by omega)
                have hF587 : Fr [79, 80, 82, 83, 84] dt (u2 (u2 dt470 79 12 0) 79 19 (dt470 79 17)) := Fr_u2 hF574 (by decide)
                have w588 : (u2 (u2 dt470 79 12 0) 79 19 (dt470 79 17)) 79 2 = (u2 dt470 79 12 0) 79 2 := rfl
                have w589 : (u2 (u2 dt470 79 12 0) 79 19 (dt470 79 17)) 79 9 = (u2 dt470 79 12 0) 79 9 := rfl
                have w590 : (u2 (u2 dt470 79 12 0) 79 19 (dt470 79 17)) 79 10 = (u2 dt470 79 12 0) 79 10 := rfl
                have w591 : (u2 (u2 dt470 79 12 0) 79 19 (dt470 79 17)) 79 11 = (u2 dt470 79 12 0) 79 11 := rfl
                have w592 : (u2 (u2 dt470 79 12 0) 79 19 (dt470 79 17)) 79 12 = (u2 dt470 79 12 0) 79 12 := rfl
                have w593 : (u2 (u2 dt470 79 12 0) 79 19 (dt470 79 17)) 79 13 = (u2 dt470 79 12 0) 79 13 := rfl
                have w594 : (u2 (u2 dt470 79 12 0) 79 19 (dt470 79 17)) 79 14 = (u2 dt470 79 12 0) 79 14 := rfl
                have w595 : (u2 (u2 dt470 79 12 0) 79 19 (dt470 79 17)) 79 15 = (u2 dt470 79 12 0) 79 15 := rfl
                have E84596 : (u2 (u2 dt470 79 12 0) 79 19 (dt470 79 17)) 84 = dt470 84 := (funext fun _ => u2_ne (by omega)).trans E84583
                have E80597 : (u2 (u2 dt470 79 12 0) 79 19 (dt470 79 17)) 80 = dt 80 := (funext fun _ => u2_ne (fun z => absurd z.1 (by decide))).trans E80584
                refine go_smp (L' := [some (.inr (.inr (some 79))), some (.inl p1), some (.inl p2), some (.inl 1)]) (st' := []) (w' := (SH, (u2 (u2 dt470 79 12 0) 79 19 (dt470 79 17)))) rfl rfl (s_pf rfl rfl rfl rfl ⟨by omega, by omega⟩) ?_
                refine go_to (k := 5) (pc' := 149) (L' := [some (.inr (.inr (some 79))), some (.inl p1), some (.inl p2), some (.inl 1)]) (st' := [.inl (-1), .inr (.inr (some 79))]) (w' := (SH, (u2 (u2 dt470 79 12 0) 79 19 (dt470 79 17)))) (fun _ => rfl) ?_
                have hI598 : InvC (u2 (u2 (u2 dt470 79 12 0) 79 19 (dt470 79 17)) 79 21 (-1)) := InvC_u2 hI586 (lo := -2147483648) (hi := 2147483647) rfl rfl rfl (by omega) (by omega)
                have hF599 : Fr [79, 80, 82, 83, 84] dt (u2 (u2 (u2 dt470 79 12 0) 79 19 (dt470 79 17)) 79 21 (-1)) := Fr_u2 hF587 (by decide)
                have w600 : (u2 (u2 (u2 dt470 79 12 0) 79 19 (dt470 79 17)) 79 21 (-1)) 79 2 = (u2 (u2 dt470 79 12 0) 79 19 (dt470 79 17)) 79 2 := rfl
                have w601 : (u2 (u2 (u2 dt470 79 12 0) 79 19 (dt470 79 17)) 79 21 (-1)) 79 9 = (u2 (u2 dt470 79 12 0) 79 19 (dt470 79 17)) 79 9 := rfl
                have w602 : (u2 (u2 (u2 dt470 79 12 0) 79 19 (dt470 79 17)) 79 21 (-1)) 79 10 = (u2 (u2 dt470 79 12 0) 79 19 (dt470 79 17)) 79 10 := rfl
                have w603 : (u2 (u2 (u2 dt470 79 12 0) 79 19 (dt470 79 17)) 79 21 (-1)) 79 11 = (u2 (u2 dt470 79 12 0) 79 19 (dt470 79 17)) 79 11 := rfl
                have w604 : (u2 (u2 (u2 dt470 79 12 0) 79 19 (dt470 79 17)) 79 21 (-1)) 79 12 = (u2 (u2 dt470 79 12 0) 79 19 (dt470 79 17)) 79 12 := rfl
                have w605 : (u2 (u2 (u2 dt470 79 12 0) 79 19 (dt470 79 17)) 79 21 (-1)) 79 13 = (u2 (u2 dt470 79 12 0) 79 19 (dt470 79 17)) 79 13 := rfl
                have w606 : (u2 (u2 (u2 dt470 79 12 0) 79 19 (dt470 79 17)) 79 21 (-1)) 79 14 = (u2 (u2 dt470 79 12 0) 79 19 (dt470 79 17)) 79 14 := rfl
                have w607 : (u2 (u2 (u2 dt470 79 12 0) 79 19 (dt470 79 17)) 79 21 (-1)) 79 15 = (u2 (u2 dt470 79 12 0) 79 19 (dt470 79 17)) 79 15 := rfl
                have E84608 : (u2 (u2 (u2 dt470 79 12 0) 79 19 (dt470 79 17)) 79 21 (-1)) 84 = dt470 84 := (funext fun _ => u2_ne (by omega)).trans E84596
                have E80609 : (u2 (u2 (u2 dt470 79 12 0) 79 19 (dt470 79 17)) 79 21 (-1)) 80 = dt 80 := (funext fun _ => u2_ne (fun z => absurd z.1 (by decide))).trans E80597
                refine go_smp (L' := [some (.inr (.inr (some 79))), some (.inl p1), some (.inl p2), some (.inl 1)]) (st' := []) (w' := (SH, (u2 (u2 (u2 dt470 79 12 0) 79 19 (dt470 79 17)) 79 21 (-1)))) rfl rfl (s_pf rfl rfl rfl rfl ⟨by omega, by omega⟩) ?_
                refine go_to (k := 4) (pc' := 160) (L' := [some (.inr (.inr (some 79))), some (.inl p1), some (.inl p2), some (.inl 1)]) (st' := [.inl p2, .inr (.inr (some 79))]) (w' := (SH, (u2 (u2 (u2 dt470 79 12 0) 79 19 (dt470 79 17)) 79 21 (-1)))) (fun _ => rfl) ?_
                refine go_call (Q' := _) rfl rfl rfl rfl rfl (sp_X6_keeps_q0 L xs sio (d + 37) (u2 (u2 (u2 dt470 79 12 0) 79 19 (dt470 79 17)) 79 21 (-1)) hI598 hM_dt470  p2 ⟨by omega, by omega⟩ (by first | trivial | omega | exact hI4 (by omega) (by omega) | exact hI5 (by omega) (by omega)) (by first | trivial | omega | exact hI4 (by omega) (by omega) | exact hI5 (by omega) (by omega)) (by first | trivial | omega | exact hI4 (by omega) (by omega) | exact hI5 (by omega) (by omega))) ?_
                rintro _ _ ⟨dt611, rfl, hI612, hF613, h610⟩
                refine ⟨rfl, ?_⟩
                have hF614 : Fr [79, 80, 82, 83, 84] dt dt611 := Fr_tr hF599 hF613 (by decide)
                have w615 : dt611 79 2 = (u2 (u2 (u2 dt470 79 12 0) 79 19 (dt470 79 17)) 79 21 (-1)) 79 2 := hF613 79 (by decide) 2
                have w616 : dt611 79 9 = (u2 (u2 (u2 dt470 79 12 0) 79 19 (dt470 79 17)) 79 21 (-1)) 79 9 := hF613 79 (by decide) 9
                have w617 : dt611 79 10 = (u2 (u2 (u2 dt470 79 12 0) 79 19 (dt470 79 17)) 79 21 (-1)) 79 10 := hF613 79 (by decide) 10
                have w618 : dt611 79 11 = (u2 (u2 (u2 dt470 79 12 0) 79 19 (dt470 79 17)) 79 21 (-1)) 79 11 := hF613 79 (by decide) 11
                have w619 : dt611 79 12 = (u2 (u2 (u2 dt470 79 12 0) 79 19 (dt470 79 17)) 79 21 (-1)) 79 12 := hF613 79 (by decide) 12
                have w620 : dt611 79 13 = (u2 (u2 (u2 dt470 79 12 0) 79 19 (dt470 79 17)) 79 21 (-1)) 79 13 := hF613 79 (by decide) 13
                have w621 : dt611 79 14 = (u2 (u2 (u2 dt470 79 12 0) 79 19 (dt470 79 17)) 79 21 (-1)) 79 14 := hF613 79 (by decide) 14
                have w622 : dt611 79 15 = (u2 (u2 (u2 dt470 79 12 0) 79 19 (dt470 79 17)) 79 21 (-1)) 79 15 := hF613 79 (by decide) 15
                have E84623 : dt611 84 = dt470 84 := (funext (hF613 84 (by decide))).trans E84608
                rcases h610 with ⟨rfl, h610⟩
                have hM624 : MW (dt611 80) := h610.1
                obtain ⟨h610_0, h610_1, h610_2, h610_3, h610_4, h610_5, h610_6, h610_7⟩ := h610
                have r625 : 0 ≤ dt611 79 10 ∧ dt611 79 10 ≤ 24 := InvC_get hI612 79 10 rfl rfl
                refine go_ret (k := 3) (r := some (.inl (dt611 79 10))) (w1 := (SH, dt611)) (fun _ => rfl) ?_
                exact ⟨dt611, rfl, hI612, hF614, ⟨_, rfl, ⟨by omega, by omega⟩, ⟨by first | trivial | omega, by first | trivial | omega, by first | assumption | exact hM, by first | rfl | exact congrFun E80609 0 | exact Eq.trans (by assumption) (congrFun E80609 0), by first | rfl | exact congrFun E80609 1 | exact Eq.trans (by assumption) (congrFun E80609 1), by first | rfl | exact congrFun E80609 2 | exact Eq.trans (by assumption) (congrFun E80609 2), by first | rfl | exact congrFun E80609 3 | exact Eq.trans (by assumption) (congrFun E80609 3), by first | rfl | exact congrFun E80609 4 | exact Eq.trans (by assumption) (congrFun E80609 4), by first | rfl | exact congrFun E80609 5 | exact Eq.trans (by assumption) (congrFun E80609 5), by first | exact fun _ _ => rfl | exact fun j hj => (h610_7 j hj).trans (congrFun E80609 j) | exact fun j hj => congrFun E80609 j | exact fun j hj => Eq.trans (h610_7 j hj) (congrFun (by assumption) j)⟩⟩⟩
              · skip
                refine go_if (k := 2) (p1 := 97) (p2 := 90) (L' := [some (.inr (.inr (some 79))), some (.inl p1), some (.inl p2), some (.inl 1)]) (st' := []) (w' := (SH, dt470)) (fun _ => rfl) (z_ne (a := p1) ⟨by omega, by omega⟩) (fun c626 => ?_) (fun c626 => ?_)
                · skip
                  refine go_to (k := 1) (pc' := 98) (L' := [some (.inr (.inr (some 79))), some (.inl p1), some (.inl p2), some (.inl 1)]) (st' := [.inr (.inr (some 79))]) (w' := (SH, dt470)) (fun _ => rfl) ?_
                  refine go_call (Q' := _) rfl rfl rfl rfl rfl (sp_X6_aLine L xs sio (d + 0) dt470 hI471   (by first | trivial | omega | exact hI4 (by omega) (by omega) | exact hI5 (by omega) (by omega)) (by first | trivial | omega | exact hI4 (by omega) (by omega) | exact hI5 (by omega) (by omega)) (by first | trivial | omega | exact hI4 (by omega) (by omega) | exact hI5 (by omega) (by omega))) ?_
                  rintro _ _ ⟨dt628, rfl, hI629, hF630, h627⟩
                  refine ⟨rfl, ?_⟩
                  have hF631 : Fr [79, 80, 82, 83, 84] dt dt628 := Fr_tr hF472 hF630 (by decide)
                  have hM632 : MW (dt628 80) := MW_fr hM_dt470 hF630 (by decide)
                  have E80633 : dt628 80 = dt 80 := (funext (hF630 80 (by decide))).trans hE80
                  rcases h627 with ⟨rfl, h627⟩ | ⟨rfl, h627⟩
                  · skip
                    obtain ⟨h627_0, h627_1, h627_2⟩ := h627
                    have r634 : 0 ≤ dt628 79 10 ∧ dt628 79 10 ≤ 24 := InvC_get hI629 79 10 rfl rfl
                    refine go_to (k := 8) (pc' := 117) (L' := [some (.inr (.inr (some 79))), some (.inl p1), some (.inl p2), some (.inl 0)]) (st' := [.inl ((dt628 79 10) + 0), .inr (.inr (some 79))]) (w' := (SH, dt628)) (fun _ => rfl) ?_
                    have hI635 : InvC (u2 dt628 79 10 ((dt628 79 10) + 0)) := InvC_u2 hI629 (lo := 0) (hi := 24) rfl rfl rfl (by omega) (by omega)
                    have hF636 : Fr [79, 80, 82, 83, 84] dt (u2 dt628 79 10 ((dt628 79 10) + 0)) := Fr_u2 hF631 (by decide)
                    have w637 : (u2 dt628 79 10 ((dt628 79 10) + 0)) 79 2 = dt628 79 2 := rfl
                    have w638 : (u2 dt628 79 10 ((dt628 79 10) + 0)) 79 9 = dt628 79 9 := rfl
                    have w639 : (u2 dt628 79 10 ((dt628 79 10) + 0)) 79 10 = (dt628 79 10) + 0 := rfl
                    have w640 : (u2 dt628 79 10 ((dt628 79 10) + 0)) 79 11 = dt628 79 11 := rfl
                    have w641 : (u2 dt628 79 10 ((dt628 79 10) + 0)) 79 12 = dt628 79 12 := rfl
                    have w642 : (u2 dt628 79 10 ((dt628 79 10) + 0)) 79 13 = dt628 79 13 := rfl
                    have w643 : (u2 dt628 79 10 ((dt628 79 10) + 0)) 79 14 = dt628 79 14 := rfl
                    have w644 : (u2 dt628 79 10 ((dt628 79 10) + 0)) 79 15 = dt628 79 15 := rfl
                    have E84645 : (u2 dt628 79 10 ((dt628 79 10) + 0)) 84 = dt628 84 := funext fun _ => u2_ne (by omega)
                    have E80646 : (u2 dt628 79 10 ((dt628 79 10) + 0)) 80 = dt 80 := (funext fun _ => u2_ne (fun z => absurd z.1 (by decide))).trans E80633
                    refine go_smp (L' := [some (.inr (.inr (some 79))), some (.inl p1), some (.inl p2), some (.inl 0)]) (st' := []) (w' := (SH, (u2 dt628 79 10 ((dt628 79 10) + 0)))) rfl rfl (s_pf rfl rfl rfl rfl ⟨by omega, by omega⟩) ?_
                    refine go_to (k := 1) (pc' := 75) (L' := [some (.inr (.inr (some 79))), some (.inl p1), some (.inl p2), some (.inl 0)]) (st' := []) (w' := (SH, (u2 dt628 79 10 ((dt628 79 10) + 0)))) (fun _ => rfl) ?_
                    exact GO.le (ih_loop483 0 (u2 dt628 79 10 ((dt628 79 10) + 0)) hI635 hF636 hM632 (by omega) (by omega) (by first | omega | exact (InvC_get (by assumption) 79 15 rfl rfl).2) (by omega) (by omega) (by intro _ hz; first | omega | exact ARW_0 (by omega) | exact ARW_s (hI4 (by omega) hz) (by omega) (by assumption) (by assumption) (by omega)) (by intro _ hz; first | omega | exact LRW_0 (by omega) | exact LRW_s (hI5 (by omega) hz) (by omega) (by assumption) (by assumption) (by assumption) (by omega) (by omega)) (by omega) (by omega) (by exact E80646) (by omega)) ⟨.inl rfl, .inl rfl, .inl rfl, .inl rfl, trivial⟩
                  · skip
                    obtain ⟨h627_0, h627_1, h627_2, h627_3, h627_4, h627_5, h627_6, h627_7, h627_8, h627_9, h627_10, h627_11, h627_12⟩ := h627
                    have r647 : 0 ≤ dt628 79 10 ∧ dt628 79 10 ≤ 24 := InvC_get hI629 79 10 rfl rfl
                    refine go_to (k := 9) (pc' := 117) (L' := [some (.inr (.inr (some 79))), some (.inl p1), some (.inl p2), some (.inl 1)]) (st' := [.inl ((dt628 79 10) + 1), .inr (.inr (some 79))]) (w' := (SH, dt628)) (fun _ => rfl) ?_
                    have hI648 : InvC (u2 dt628 79 10 ((dt628 79 10) + 1)) := InvC_u2 hI629 (lo := 0) (hi := 24) rfl rfl rfl (by omega) (by omega)
                    have hF649 : Fr [79, 80, 82, 83, 84] dt (u2 dt628 79 10 ((dt628 79 10) + 1)) := Fr_u2 hF631 (by decide)
                    have w650 : (u2 dt628 79 10 ((dt628 79 10) + 1)) 79 2 = dt628 79 2 := rfl
                    have w651 : (u2 dt628 79 10 ((dt628 79 10) + 1)) 79 9 = dt628 79 9 := rfl
                    have w652 : (u2 dt628 79 10 ((dt628 79 10) + 1)) 79 10 = (dt628 79 10) + 1 := rfl
                    have w653 : (u2 dt628 79 10 ((dt628 79 10) + 1)) 79 11 = dt628 79 11 := rfl
                    have w654 : (u2 dt628 79 10 ((dt628 79 10) + 1)) 79 12 = dt628 79 12 := rfl
                    have w655 : (u2 dt628 79 10 ((dt628 79 10) + 1)) 79 13 = dt628 79 13 := rfl
                    have w656 : (u2 dt628 79 10 ((dt628 79 10) + 1)) 79 14 = dt628 79 14 := rfl
                    have w657 : (u2 dt628 79 10 ((dt628 79 10) + 1)) 79 15 = dt628 79 15 := rfl
                    have E84658 : (u2 dt628 79 10 ((dt628 79 10) + 1)) 84 = dt628 84 := funext fun _ => u2_ne (by omega)
                    have E80659 : (u2 dt628 79 10 ((dt628 79 10) + 1)) 80 = dt 80 := (funext fun _ => u2_ne (fun z => absurd z.1 (by decide))).trans E80633
                    refine go_smp (L' := [some (.inr (.inr (some 79))), some (.inl p1), some (.inl p2), some (.inl 1)]) (st' := []) (w' := (SH, (u2 dt628 79 10 ((dt628 79 10) + 1)))) rfl rfl (s_pf rfl rfl rfl rfl ⟨by omega, by omega⟩) ?_
                    refine go_to (k := 1) (pc' := 75) (L' := [some (.inr (.inr (some 79))), some (.inl p1), some (.inl p2), some (.inl 1)]) (st' := []) (w' := (SH, (u2 dt628 79 10 ((dt628 79 10) + 1)))) (fun _ => rfl) ?_
                    exact GO.le (ih_loop483 1 (u2 dt628 79 10 ((dt628 79 10) + 1)) hI648 hF649 hM632 (by omega) (by omega) (by first | omega | exact (InvC_get (by assumption) 79 15 rfl rfl).2) (by omega) (by omega) (by intro _ hz; first | omega | exact ARW_0 (by omega) | exact ARW_s (hI4 (by omega) hz) (by omega) (by assumption) (by assumption) (by omega)) (by intro _ hz; first | omega | exact LRW_0 (by omega) | exact LRW_s (hI5 (by omega) hz) (by omega) (by assumption) (by assumption) (by assumption) (by omega) (by omega)) (by omega) (by omega) (by exact E80659) (by omega)) ⟨.inl rfl, .inl rfl, .inl rfl, .inl rfl, trivial⟩
                · skip
                  refine go_to (k := 1) (pc' := 91) (L' := [some (.inr (.inr (some 79))), some (.inl p1), some (.inl p2), some (.inl 1)]) (st' := [.inr (.inr (some 79))]) (w' := (SH, dt470)) (fun _ => rfl) ?_
                  refine go_call (Q' := _) rfl rfl rfl rfl rfl (sp_X6_anAct L xs sio (d + 28) dt470 hI471   (by first | trivial | omega | exact hI4 (by omega) (by omega) | exact hI5 (by omega) (by omega))) ?_
                  rintro _ _ ⟨dt661, rfl, hI662, hF663, h660⟩
                  refine ⟨rfl, ?_⟩
                  have hF664 : Fr [79, 80, 82, 83, 84] dt dt661 := Fr_tr hF472 hF663 (by decide)
                  have hM665 : MW (dt661 80) := MW_fr hM_dt470 hF663 (by decide)
                  have E80666 : dt661 80 = dt 80 := (funext (hF663 80 (by decide))).trans hE80
                  have E84667 : dt661 84 = dt470 84 := funext (hF663 84 (by decide))
                  rcases h660 with ⟨rfl, h660⟩ | ⟨rfl, h660⟩
                  · skip
                    obtain ⟨h660_0, h660_1, h660_2⟩ := h660
                    have r668 : 0 ≤ dt661 79 10 ∧ dt661 79 10 ≤ 24 := InvC_get hI662 79 10 rfl rfl
                    refine go_to (k := 9) (pc' := 117) (L' := [some (.inr (.inr (some 79))), some (.inl p1), some (.inl p2), some (.inl 0)]) (st' := [.inl ((dt661 79 10) + 0), .inr (.inr (some 79))]) (w' := (SH, dt661)) (fun _ => rfl) ?_
                    have hI669 : InvC (u2 dt661 79 10 ((dt661 79 10) + 0)) := InvC_u2 hI662 (lo := 0) (hi := 24) rfl rfl rfl (by omega) (by omega)
                    have hF670 : Fr [79, 80, 82, 83, 84] dt (u2 dt661 79 10 ((dt661 79 10) + 0)) := Fr_u2 hF664 (by decide)
                    have w671 : (u2 dt661 79 10 ((dt661 79 10) + 0)) 79 2 = dt661 79 2 := rfl
                    have w672 : (u2 dt661 79 10 ((dt661 79 10) + 0)) 79 9 = dt661 79 9 := rfl
                    have w673 : (u2 dt661 79 10 ((dt661 79 10) + 0)) 79 10 = (dt661 79 10) + 0 := rfl
                    have w674 : (u2 dt661 79 10 ((dt661 79 10) + 0)) 79 11 = dt661 79 11 := rfl
                    have w675 : (u2 dt661 79 10 ((dt661 79 10) + 0)) 79 12 = dt661 79 12 := rfl
                    have w676 : (u2 dt661 79 10 ((dt661 79 10) + 0)) 79 13 = dt661 79 13 := rfl
                    have w677 : (u2 dt661 79 10 ((dt661 79 10) + 0)) 79 14 = dt661 79 14 := rfl
                    have w678 : (u2 dt661 79 10 ((dt661 79 10) + 0)) 79 15 = dt661 79 15 := rfl
                    have E84679 : (u2 dt661 79 10 ((dt661 79 10) + 0)) 84 = dt470 84 := (funext fun _ => u2_ne (by omega)).trans E84667
                    have E80680 : (u2 dt661 79 10 ((dt661 79 10) + 0)) 80 = dt 80 := (funext fun _ => u2_ne (fun z => absurd z.1 (by decide))).trans E80666
                    refine go_smp (L' := [some (.inr (.inr (some 79))), some (.inl p1), some (.inl p2), some (.inl 0)]) (st' := []) (w' := (SH, (u2 dt661 79 10 ((dt661 79 10) + 0)))) rfl rfl (s_pf rfl rfl rfl rfl ⟨by omega, by omega⟩) ?_
                    refine go_to (k := 1) (pc' := 75) (L' := [some (.inr (.inr (some 79))), some (.inl p1), some (.inl p2), some (.inl 0)]) (st' := []) (w' := (SH, (u2 dt661 79 10 ((dt661 79 10) + 0)))) (fun _ => rfl) ?_
                    exact GO.le (ih_loop483 0 (u2 dt661 79 10 ((dt661 79 10) + 0)) hI669 hF670 hM665 (by omega) (by omega) (by first | omega | exact (InvC_get (by assumption) 79 15 rfl rfl).2) (by omega) (by omega) (by intro _ hz; first | omega | exact ARW_0 (by omega) | exact ARW_s (hI4 (by omega) hz) (by omega) (by assumption) (by assumption) (by omega)) (by intro _ hz; first | omega | exact LRW_0 (by omega) | exact LRW_s (hI5 (by omega) hz) (by omega) (by assumption) (by assumption) (by assumption) (by omega) (by omega)) (by omega) (by omega) (by exact E80680) (by omega)) ⟨.inl rfl, .inl rfl, .inl rfl, .inl rfl, trivial⟩
                  · skip
                    obtain ⟨h660_0, h660_1, h660_2, h660_3, h660_4, h660_5, h660_6, h660_7, h660_8, h660_9, h660_10⟩ := h660
                    have r681 : 0 ≤ dt661 79 10 ∧ dt661 79 10 ≤ 24 := InvC_get hI662 79 10 rfl rfl
                    refine go_to (k := 10) (pc' := 117) (L' := [some (.inr (.inr (some 79))), some (.inl p1), some (.inl p2), some (.inl 1)]) (st' := [.inl ((dt661 79 10) + 1), .inr (.inr (some 79))]) (w' := (SH, dt661)) (fun _ => rfl) ?_
                    have hI682 : InvC (u2 dt661 79 10 ((dt661 79 10) + 1)) := InvC_u2 hI662 (lo := 0) (hi := 24) rfl rfl rfl (by omega) (by omega)
                    have hF683 : Fr [79, 80, 82, 83, 84] dt (u2 dt661 79 10 ((dt661 79 10) + 1)) := Fr_u2 hF664 (by decide)
                    have w684 : (u2 dt661 79 10 ((dt661 79 10) + 1)) 79 2 = dt661 79 2 := rfl
                    have w685 : (u2 dt661 79 10 ((dt661 79 10) + 1)) 79 9 = dt661 79 9 := rfl
                    have w686 : (u2 dt661 79 10 ((dt661 79 10) + 1)) 79 10 = (dt661 79 10) + 1 := rfl
                    have w687 : (u2 dt661 79 10 ((dt661 79 10) + 1)) 79 11 = dt661 79 11 := rfl
                    have w688 : (u2 dt661 79 10 ((dt661 79 10) + 1)) 79 12 = dt661 79 12 := rfl
                    have w689 : (u2 dt661 79 10 ((dt661 79 10) + 1)) 79 13 = dt661 79 13 := rfl
                    have w690 : (u2 dt661 79 10 ((dt661 79 10) + 1)) 79 14 = dt661 79 14 := rfl
                    have w691 : (u2 dt661 79 10 ((dt661 79 10) + 1)) 79 15 = dt661 79 15 := rfl
                    have E84692 : (u2 dt661 79 10 ((dt661 79 10) + 1)) 84 = dt470 84 := (funext fun _ => u2_ne (by omega)).trans E84667
                    have E80693 : (u2 dt661 79 10 ((dt661 79 10) + 1)) 80 = dt 80 := (funext fun _ => u2_ne (fun z => absurd z.1 (by decide))).trans E80666
                    refine go_smp (L' := [some (.inr (.inr (some 79))), some (.inl p1), some (.inl p2), some (.inl 1)]) (st' := []) (w' := (SH, (u2 dt661 79 10 ((dt661 79 10) + 1)))) rfl rfl (s_pf rfl rfl rfl rfl ⟨by omega, by omega⟩) ?_
                    refine go_to (k := 1) (pc' := 75) (L' := [some (.inr (.inr (some 79))), some (.inl p1), some (.inl p2), some (.inl 1)]) (st' := []) (w' := (SH, (u2 dt661 79 10 ((dt661 79 10) + 1)))) (fun _ => rfl) ?_
                    exact GO.le (ih_loop483 1 (u2 dt661 79 10 ((dt661 79 10) + 1)) hI682 hF683 hM665 (by omega) (by omega) (by first | omega | exact (InvC_get (by assumption) 79 15 rfl rfl).2) (by omega) (by omega) (by intro _ hz; first | omega | exact ARW_0 (by omega) | exact ARW_s (hI4 (by omega) hz) (by omega) (by assumption) (by assumption) (by omega)) (by intro _ hz; first | omega | exact LRW_0 (by omega) | exact LRW_s (hI5 (by omega) hz) (by omega) (by assumption) (by assumption) (by assumption) (by omega) (by omega)) (by omega) (by omega) (by exact E80693) (by omega)) ⟨.inl rfl, .inl rfl, .inl rfl, .inl rfl, trivial⟩
        exact GO.le (loop483 _ 1 dt390 hI391 hF393 hM394 (by omega) (by omega) (by first | omega | exact (InvC_get (by assumption) 79 15 rfl rfl).2) (by omega) (by omega) (by intro _ hz; first | omega | exact ARW_0 (by omega) | exact ARW_s (hI4 (by omega) hz) (by omega) (by assumption) (by assumption) (by omega)) (by intro _ hz; first | omega | exact LRW_0 (by omega) | exact LRW_s (hI5 (by omega) hz) (by omega) (by assumption) (by assumption) (by assumption) (by omega) (by omega)) (by omega) (by omega) (by exact E80395) (Nat.lt_succ_self _)) ⟨.inl rfl, .inl rfl, .inl rfl, .inl rfl, trivial⟩
      · skip
        refine go_to (k := 3) (pc' := 34) (L' := [some (.inr (.inr (some 79))), some (.inl p1), some (.inl p2), none]) (st' := [.inl 0, .inr (.inr (some 79))]) (w' := (SH, (u2 dt 79 17 0))) (fun _ => rfl) ?_
        have hI694 : InvC (u2 (u2 dt 79 17 0) 79 12 0) := InvC_u2 hI4 (lo := 0) (hi := 500) rfl rfl rfl (by omega) (by omega)
        have hF695 : Fr [79, 80, 82, 83, 84] dt (u2 (u2 dt 79 17 0) 79 12 0) := Fr_u2 hF5 (by decide)
        have w696 : (u2 (u2 dt 79 17 0) 79 12 0) 79 2 = (u2 dt 79 17 0) 79 2 := rfl
        have w697 : (u2 (u2 dt 79 17 0) 79 12 0) 79 9 = (u2 dt 79 17 0) 79 9 := rfl
        have w698 : (u2 (u2 dt 79 17 0) 79 12 0) 79 10 = (u2 dt 79 17 0) 79 10 := rfl
        have w699 : (u2 (u2 dt 79 17 0) 79 12 0) 79 11 = (u2 dt 79 17 0) 79 11 := rfl
        have w700 : (u2 (u2 dt 79 17 0) 79 12 0) 79 12 = 0 := rfl
        have w701 : (u2 (u2 dt 79 17 0) 79 12 0) 79 13 = (u2 dt 79 17 0) 79 13 := rfl
        have w702 : (u2 (u2 dt 79 17 0) 79 12 0) 79 14 = (u2 dt 79 17 0) 79 14 := rfl
        have w703 : (u2 (u2 dt 79 17 0) 79 12 0) 79 15 = (u2 dt 79 17 0) 79 15 := rfl
        have E84704 : (u2 (u2 dt 79 17 0) 79 12 0) 84 = dt 84 := (funext fun _ => u2_ne (by omega)).trans E8414
        have E80705 : (u2 (u2 dt 79 17 0) 79 12 0) 80 = dt 80 := (funext fun _ => u2_ne (fun z => absurd z.1 (by decide))).trans E8015
        refine go_smp (L' := [some (.inr (.inr (some 79))), some (.inl p1), some (.inl p2), none]) (st' := []) (w' := (SH, (u2 (u2 dt 79 17 0) 79 12 0))) rfl rfl (s_pf rfl rfl rfl rfl ⟨by omega, by omega⟩) ?_
        refine go_to (k := 2) (pc' := 39) (L' := [some (.inr (.inr (some 79))), some (.inl p1), some (.inl p2), none]) (st' := [.inl 0, .inr (.inr (some 79))]) (w' := (SH, (u2 (u2 dt 79 17 0) 79 12 0))) (fun _ => rfl) ?_
        have hI706 : InvC (u2 (u2 (u2 dt 79 17 0) 79 12 0) 79 19 0) := InvC_u2 hI694 (lo := -2147483648) (hi := 2147483647) rfl rfl rfl (by omega) (by omega)
        have hF707 : Fr [79, 80, 82, 83, 84] dt (u2 (u2 (u2 dt 79 17 0) 79 12 0) 79 19 0) := Fr_u2 hF695 (by decide)
        have w708 : (u2 (u2 (u2 dt 79 17 0) 79 12 0) 79 19 0) 79 2 = (u2 (u2 dt 79 17 0) 79 12 0) 79 2 := rfl
        have w709 : (u2 (u2 (u2 dt 79 17 0) 79 12 0) 79 19 0) 79 9 = (u2 (u2 dt 79 17 0) 79 12 0) 79 9 := rfl
        have w710 : (u2 (u2 (u2 dt 79 17 0) 79 12 0) 79 19 0) 79 10 = (u2 (u2 dt 79 17 0) 79 12 0) 79 10 := rfl
        have w711 : (u2 (u2 (u2 dt 79 17 0) 79 12 0) 79 19 0) 79 11 = (u2 (u2 dt 79 17 0) 79 12 0) 79 11 := rfl
        have w712 : (u2 (u2 (u2 dt 79 17 0) 79 12 0) 79 19 0) 79 12 = (u2 (u2 dt 79 17 0) 79 12 0) 79 12 := rfl
        have w713 : (u2 (u2 (u2 dt 79 17 0) 79 12 0) 79 19 0) 79 13 = (u2 (u2 dt 79 17 0) 79 12 0) 79 13 := rfl
        have w714 : (u2 (u2 (u2 dt 79 17 0) 79 12 0) 79 19 0) 79 14 = (u2 (u2 dt 79 17 0) 79 12 0) 79 14 := rfl
        have w715 : (u2 (u2 (u2 dt 79 17 0) 79 12 0) 79 19 0) 79 15 = (u2 (u2 dt 79 17 0) 79 12 0) 79 15 := rfl
        have E84716 : (u2 (u2 (u2 dt 79 17 0) 79 12 0) 79 19 0) 84 = dt 84 := (funext fun _ => u2_ne (by omega)).trans E84704
        have E80717 : (u2 (u2 (u2 dt 79 17 0) 79 12 0) 79 19 0) 80 = dt 80 := (funext fun _ => u2_ne (fun z => absurd z.1 (by decide))).trans E80705
        refine go_smp (L' := [some (.inr (.inr (some 79))), some (.inl p1), some (.inl p2), none]) (st' := []) (w' := (SH, (u2 (u2 (u2 dt 79 17 0) 79 12 0) 79 19 0))) rfl rfl (s_pf rfl rfl rfl rfl ⟨by omega, by omega⟩) ?_
        refine go_to (k := 2) (pc' := 44) (L' := [some (.inr (.inr (some 79))), some (.inl p1), some (.inl p2), none]) (st' := [.inl (-1), .inr (.inr (some 79))]) (w' := (SH, (u2 (u2 (u2 dt 79 17 0) 79 12 0) 79 19 0))) (fun _ => rfl) ?_
        have hI718 : InvC (u2 (u2 (u2 (u2 dt 79 17 0) 79 12 0) 79 19 0) 79 21 (-1)) := InvC_u2 hI706 (lo := -2147483648) (hi := 2147483647) rfl rfl rfl (by omega) (by omega)
        have hF719 : Fr [79, 80, 82, 83, 84] dt (u2 (u2 (u2 (u2 dt 79 17 0) 79 12 0) 79 19 0) 79 21 (-1)) := Fr_u2 hF707 (by decide)
        have w720 : (u2 (u2 (u2 (u2 dt 79 17 0) 79 12 0) 79 19 0) 79 21 (-1)) 79 2 = (u2 (u2 (u2 dt 79 17 0) 79 12 0) 79 19 0) 79 2 := rfl
        have w721 : (u2 (u2 (u2 (u2 dt 79 17 0) 79 12 0) 79 19 0) 79 21 (-1)) 79 9 = (u2 (u2 (u2 dt 79 17 0) 79 12 0) 79 19 0) 79 9 := rfl
        have w722 : (u2 (u2 (u2 (u2 dt 79 17 0) 79 12 0) 79 19 0) 79 21 (-1)) 79 10 = (u2 (u2 (u2 dt 79 17 0) 79 12 0) 79 19 0) 79 10 := rfl
        have w723 : (u2 (u2 (u2 (u2 dt 79 17 0) 79 12 0) 79 19 0) 79 21 (-1)) 79 11 = (u2 (u2 (u2 dt 79 17 0) 79 12 0) 79 19 0) 79 11 := rfl
        have w724 : (u2 (u2 (u2 (u2 dt 79 17 0) 79 12 0) 79 19 0) 79 21 (-1)) 79 12 = (u2 (u2 (u2 dt 79 17 0) 79 12 0) 79 19 0) 79 12 := rfl
        have w725 : (u2 (u2 (u2 (u2 dt 79 17 0) 79 12 0) 79 19 0) 79 21 (-1)) 79 13 = (u2 (u2 (u2 dt 79 17 0) 79 12 0) 79 19 0) 79 13 := rfl
        have w726 : (u2 (u2 (u2 (u2 dt 79 17 0) 79 12 0) 79 19 0) 79 21 (-1)) 79 14 = (u2 (u2 (u2 dt 79 17 0) 79 12 0) 79 19 0) 79 14 := rfl
        have w727 : (u2 (u2 (u2 (u2 dt 79 17 0) 79 12 0) 79 19 0) 79 21 (-1)) 79 15 = (u2 (u2 (u2 dt 79 17 0) 79 12 0) 79 19 0) 79 15 := rfl
        have E84728 : (u2 (u2 (u2 (u2 dt 79 17 0) 79 12 0) 79 19 0) 79 21 (-1)) 84 = dt 84 := (funext fun _ => u2_ne (by omega)).trans E84716
        have E80729 : (u2 (u2 (u2 (u2 dt 79 17 0) 79 12 0) 79 19 0) 79 21 (-1)) 80 = dt 80 := (funext fun _ => u2_ne (fun z => absurd z.1 (by decide))).trans E80717
        refine go_smp (L' := [some (.inr (.inr (some 79))), some (.inl p1), some (.inl p2), none]) (st' := []) (w' := (SH, (u2 (u2 (u2 (u2 dt 79 17 0) 79 12 0) 79 19 0) 79 21 (-1)))) rfl rfl (s_pf rfl rfl rfl rfl ⟨by omega, by omega⟩) ?_
        refine go_ret (k := 2) (r := some (.inl (-1))) (w1 := (SH, (u2 (u2 (u2 (u2 dt 79 17 0) 79 12 0) 79 19 0) 79 21 (-1)))) (fun _ => rfl) ?_
        exact ⟨(u2 (u2 (u2 (u2 dt 79 17 0) 79 12 0) 79 19 0) 79 21 (-1)), rfl, hI718, hF719, ⟨_, rfl, ⟨by omega, by omega⟩, ⟨by first | trivial | omega, by first | trivial | omega, by first | assumption | exact hM, by first | rfl | exact congrFun E80729 0 | exact Eq.trans (by assumption) (congrFun E80729 0), by first | rfl | exact congrFun E80729 1 | exact Eq.trans (by assumption) (congrFun E80729 1), by first | rfl | exact congrFun E80729 2 | exact Eq.trans (by assumption) (congrFun E80729 2), by first | rfl | exact congrFun E80729 3 | exact Eq.trans (by assumption) (congrFun E80729 3), by first | rfl | exact congrFun E80729 4 | exact Eq.trans (by assumption) (congrFun E80729 4), by first | rfl | exact congrFun E80729 5 | exact Eq.trans (by assumption) (congrFun E80729 5), by first | exact fun _ _ => rfl | exact fun j hj => (hI j hj).trans (congrFun E80729 j) | exact fun j hj => congrFun E80729 j | exact fun j hj => Eq.trans (hI j hj) (congrFun (by assumption) j)⟩⟩⟩
  · skip
    refine go_to (k := 3) (pc' := 34) (L' := [some (.inr (.inr (some 79))), some (.inl p1), some (.inl p2), none]) (st' := [.inl 0, .inr (.inr (some 79))]) (w' := (SH, (u2 dt 79 17 0))) (fun _ => rfl) ?_
    have hI730 : InvC (u2 (u2 dt 79 17 0) 79 12 0) := InvC_u2 hI4 (lo := 0) (hi := 500) rfl rfl rfl (by omega) (by omega)
    have hF731 : Fr [79, 80, 82, 83, 84] dt (u2 (u2 dt 79 17 0) 79 12 0) := Fr_u2 hF5 (by decide)
    have w732 : (u2 (u2 dt 79 17 0) 79 12 0) 79 2 = (u2 dt 79 17 0) 79 2 := rfl
    have w733 : (u2 (u2 dt 79 17 0) 79 12 0) 79 9 = (u2 dt 79 17 0) 79 9 := rfl
    have w734 : (u2 (u2 dt 79 17 0) 79 12 0) 79 10 = (u2 dt 79 17 0) 79 10 := rfl
    have w735 : (u2 (u2 dt 79 17 0) 79 12 0) 79 11 = (u2 dt 79 17 0) 79 11 := rfl
    have w736 : (u2 (u2 dt 79 17 0) 79 12 0) 79 12 = 0 := rfl
    have w737 : (u2 (u2 dt 79 17 0) 79 12 0) 79 13 = (u2 dt 79 17 0) 79 13 := rfl
    have w738 : (u2 (u2 dt 79 17 0) 79 12 0) 79 14 = (u2 dt 79 17 0) 79 14 := rfl
    have w739 : (u2 (u2 dt 79 17 0) 79 12 0) 79 15 = (u2 dt 79 17 0) 79 15 := rfl
    have E84740 : (u2 (u2 dt 79 17 0) 79 12 0) 84 = dt 84 := (funext fun _ => u2_ne (by omega)).trans E8414
    have E80741 : (u2 (u2 dt 79 17 0) 79 12 0) 80 = dt 80 := (funext fun _ => u2_ne (fun z => absurd z.1 (by decide))).trans E8015
    refine go_smp (L' := [some (.inr (.inr (some 79))), some (.inl p1), some (.inl p2), none]) (st' := []) (w' := (SH, (u2 (u2 dt 79 17 0) 79 12 0))) rfl rfl (s_pf rfl rfl rfl rfl ⟨by omega, by omega⟩) ?_
    refine go_to (k := 2) (pc' := 39) (L' := [some (.inr (.inr (some 79))), some (.inl p1), some (.inl p2), none]) (st' := [.inl 0, .inr (.inr (some 79))]) (w' := (SH, (u2 (u2 dt 79 17 0) 79 12 0))) (fun _ => rfl) ?_
    have hI742 : InvC (u2 (u2 (u2 dt 79 17 0) 79 12 0) 79 19 0) := InvC_u2 hI730 (lo := -2147483648) (hi := 2147483647) rfl rfl rfl (by omega) (by omega)
    have hF743 : Fr [79, 80, 82, 83, 84] dt (u2 (u2 (u2 dt 79 17 0) 79 12 0) 79 19 0) := Fr_u2 hF731 (by decide)
    have w744 : (u2 (u2 (u2 dt 79 17 0) 79 12 0) 79 19 0) 79 2 = (u2 (u2 dt 79 17 0) 79 12 0) 79 2 := rfl
    have w745 : (u2 (u2 (u2 dt 79 17 0) 79 12 0) 79 19 0) 79 9 = (u2 (u2 dt 79 17 0) 79 12 0) 79 9 := rfl
    have w746 : (u2 (u2 (u2 dt 79 17 0) 79 12 0) 79 19 0) 79 10 = (u2 (u2 dt 79 17 0) 79 12 0) 79 10 := rfl
    have w747 : (u2 (u2 (u2 dt 79 17 0) 79 12 0) 79 19 0) 79 11 = (u2 (u2 dt 79 17 0) 79 12 0) 79 11 := rfl
    have w748 : (u2 (u2 (u2 dt 79 17 0) 79 12 0) 79 19 0) 79 12 = (u2 (u2 dt 79 17 0) 79 12 0) 79 12 := rfl
    have w749 : (u2 (u2 (u2 dt 79 17 0) 79 12 0) 79 19 0) 79 13 = (u2 (u2 dt 79 17 0) 79 12 0) 79 13 := rfl
    have w750 : (u2 (u2 (u2 dt 79 17 0) 79 12 0) 79 19 0) 79 14 = (u2 (u2 dt 79 17 0) 79 12 0) 79 14 := rfl
    have w751 : (u2 (u2 (u2 dt 79 17 0) 79 12 0) 79 19 0) 79 15 = (u2 (u2 dt 79 17 0) 79 12 0) 79 15 := rfl
    have E84752 : (u2 (u2 (u2 dt 79 17 0) 79 12 0) 79 19 0) 84 = dt 84 := (funext fun _ => u2_ne (by omega)).trans E84740
    have E80753 : (u2 (u2 (u2 dt 79 17 0) 79 12 0) 79 19 0) 80 = dt 80 := (funext fun _ => u2_ne (fun z => absurd z.1 (by decide))).trans E80741
    refine go_smp (L' := [some (.inr (.inr (some 79))), some (.inl p1), some (.inl p2), none]) (st' := []) (w' := (SH, (u2 (u2 (u2 dt 79 17 0) 79 12 0) 79 19 0))) rfl rfl (s_pf rfl rfl rfl rfl ⟨by omega, by omega⟩) ?_
    refine go_to (k := 2) (pc' := 44) (L' := [some (.inr (.inr (some 79))), some (.inl p1), some (.inl p2), none]) (st' := [.inl (-1), .inr (.inr (some 79))]) (w' := (SH, (u2 (u2 (u2 dt 79 17 0) 79 12 0) 79 19 0))) (fun _ => rfl) ?_
    have hI754 : InvC (u2 (u2 (u2 (u2 dt 79 17 0) 79 12 0) 79 19 0) 79 21 (-1)) := InvC_u2 hI742 (lo := -2147483648) (hi := 2147483647) rfl rfl rfl (by omega) (by omega)
    have hF755 : Fr [79, 80, 82, 83, 84] dt (u2 (u2 (u2 (u2 dt 79 17 0) 79 12 0) 79 19 0) 79 21 (-1)) := Fr_u2 hF743 (by decide)
    have w756 : (u2 (u2 (u2 (u2 dt 79 17 0) 79 12 0) 79 19 0) 79 21 (-1)) 79 2 = (u2 (u2 (u2 dt 79 17 0) 79 12 0) 79 19 0) 79 2 := rfl
    have w757 : (u2 (u2 (u2 (u2 dt 79 17 0) 79 12 0) 79 19 0) 79 21 (-1)) 79 9 = (u2 (u2 (u2 dt 79 17 0) 79 12 0) 79 19 0) 79 9 := rfl
    have w758 : (u2 (u2 (u2 (u2 dt 79 17 0) 79 12 0) 79 19 0) 79 21 (-1)) 79 10 = (u2 (u2 (u2 dt 79 17 0) 79 12 0) 79 19 0) 79 10 := rfl
    have w759 : (u2 (u2 (u2 (u2 dt 79 17 0) 79 12 0) 79 19 0) 79 21 (-1)) 79 11 = (u2 (u2 (u2 dt 79 17 0) 79 12 0) 79 19 0) 79 11 := rfl
    have w760 : (u2 (u2 (u2 (u2 dt 79 17 0) 79 12 0) 79 19 0) 79 21 (-1)) 79 12 = (u2 (u2 (u2 dt 79 17 0) 79 12 0) 79 19 0) 79 12 := rfl
    have w761 : (u2 (u2 (u2 (u2 dt 79 17 0) 79 12 0) 79 19 0) 79 21 (-1)) 79 13 = (u2 (u2 (u2 dt 79 17 0) 79 12 0) 79 19 0) 79 13 := rfl
    have w762 : (u2 (u2 (u2 (u2 dt 79 17 0) 79 12 0) 79 19 0) 79 21 (-1)) 79 14 = (u2 (u2 (u2 dt 79 17 0) 79 12 0) 79 19 0) 79 14 := rfl
    have w763 : (u2 (u2 (u2 (u2 dt 79 17 0) 79 12 0) 79 19 0) 79 21 (-1)) 79 15 = (u2 (u2 (u2 dt 79 17 0) 79 12 0) 79 19 0) 79 15 := rfl
    have E84764 : (u2 (u2 (u2 (u2 dt 79 17 0) 79 12 0) 79 19 0) 79 21 (-1)) 84 = dt 84 := (funext fun _ => u2_ne (by omega)).trans E84752
    have E80765 : (u2 (u2 (u2 (u2 dt 79 17 0) 79 12 0) 79 19 0) 79 21 (-1)) 80 = dt 80 := (funext fun _ => u2_ne (fun z => absurd z.1 (by decide))).trans E80753
    refine go_smp (L' := [some (.inr (.inr (some 79))), some (.inl p1), some (.inl p2), none]) (st' := []) (w' := (SH, (u2 (u2 (u2 (u2 dt 79 17 0) 79 12 0) 79 19 0) 79 21 (-1)))) rfl rfl (s_pf rfl rfl rfl rfl ⟨by omega, by omega⟩) ?_
    refine go_ret (k := 2) (r := some (.inl (-1))) (w1 := (SH, (u2 (u2 (u2 (u2 dt 79 17 0) 79 12 0) 79 19 0) 79 21 (-1)))) (fun _ => rfl) ?_
    exact ⟨(u2 (u2 (u2 (u2 dt 79 17 0) 79 12 0) 79 19 0) 79 21 (-1)), rfl, hI754, hF755, ⟨_, rfl, ⟨by omega, by omega⟩, ⟨by first | trivial | omega, by first | trivial | omega, by first | assumption | exact hM, by first | rfl | exact congrFun E80765 0 | exact Eq.trans (by assumption) (congrFun E80765 0), by first | rfl | exact congrFun E80765 1 | exact Eq.trans (by assumption) (congrFun E80765 1), by first | rfl | exact congrFun E80765 2 | exact Eq.trans (by assumption) (congrFun E80765 2), by first | rfl | exact congrFun E80765 3 | exact Eq.trans (by assumption) (congrFun E80765 3), by first | rfl | exact congrFun E80765 4 | exact Eq.trans (by assumption) (congrFun E80765 4), by first | rfl | exact congrFun E80765 5 | exact Eq.trans (by assumption) (congrFun E80765 5), by first | exact fun _ _ => rfl | exact fun j hj => (hI j hj).trans (congrFun E80765 j) | exact fun j hj => congrFun E80765 j | exact fun j hj => Eq.trans (hI j hj) (congrFun (by assumption) j)⟩⟩⟩
theorem chk_sp_X6_text_qg (L : Nat) (xs : Nat → Int32) (sio : Option Nat) (d : Nat) (dt : Nat → Nat → Int) (hI : InvC dt) (hM : MW (dt 80))  (p1 : Int) (hr_p1 : (-2147483648) ≤ p1 ∧ p1 ≤ 2147483647) (p2 : Int) (hr_p2 : (-2147483648) ≤ p2 ∧ p2 ≤ 2147483647)  : GO (am_XX L xs sio) (d + 38) 174 0 [some (.inr (.inr (some 79))), some (.inl p1), some (.inl p2), none] [] (SH, dt) (fun r w2 => ∃ dt2 : Nat → Nat → Int, w2 = (SH, dt2) ∧ InvC dt2 ∧ Fr [79, 80, 82, 83, 84] dt dt2 ∧ ((∃ v : Int, r = some (.inl v) ∧ ((-1) ≤ v ∧ v ≤ 24) ∧ (dt2 79 12 = 0) ∧ (dt2 79 2 = dt 79 2) ∧ (MW (dt2 80)) ∧ (dt2 80 0 = dt 80 0) ∧ (dt2 80 1 = dt 80 1) ∧ (dt2 80 2 = dt 80 2) ∧ (dt2 80 3 = dt 80 3) ∧ (dt2 80 4 = dt 80 4) ∧ (dt2 80 5 = dt 80 5) ∧ (∀ j : Nat, (j = 1 ∨ 5320 ≤ j) → dt2 80 j = dt 80 j) ∧ (dt2 79 12 = 0) ∧ (dt2 79 2 = dt 79 2) ∧ (TRS p1 p2 (mB (dt 85) (dt 79 12)) (dt 79 12).toNat v (dt2 79 19) (dt2 79 21)) ∧ (TSR p1 p2 (mB (dt 85) (dt 79 12)) (dt 79 12).toNat (dt2 79 19) v (dt 80) (dt2 80))))) := by
  refine GO.mono (GO.both (sp_X6_text_q L xs sio (d + 0) dt hI hM  p1 ⟨by omega, by omega⟩ p2 ⟨by omega, by omega⟩ ) (sp_X6_text_g L xs sio (d + 0) dt hI  p1 ⟨by omega, by omega⟩ p2 ⟨by omega, by omega⟩ )) ?_
  rintro r w2 ⟨⟨dt2, rfl, hI2, hF2, hA⟩, ⟨dt3, hw, _, _, hB⟩⟩
  have e : dt2 = dt3 := congrArg Prod.snd hw
  subst e
  refine ⟨dt2, rfl, hI2, hF2, ?_⟩
  rcases hA with hA <;> rcases hB with hB
  · obtain ⟨v1, e1, r1, hA⟩ := hA; obtain ⟨v2, e2, r2, hB⟩ := hB
    have ev : v2 = v1 := by rw [e1] at e2; cases e2; rfl
    subst ev
    exact ⟨_, e1, r1, hA.1, hA.2.1, hA.2.2.1, hA.2.2.2.1, hA.2.2.2.2.1, hA.2.2.2.2.2.1, hA.2.2.2.2.2.2.1, hA.2.2.2.2.2.2.2.1, hA.2.2.2.2.2.2.2.2.1, hA.2.2.2.2.2.2.2.2.2, hB.1, hB.2.1, hB.2.2.1, hB.2.2.2⟩
